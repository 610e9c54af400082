theorem dX6_init_0 : decode cX6_init 0 = .ok (.aload_n 0, 1) := by decide +kernel
theorem dX6_init_1 : decode cX6_init 1 = .ok (.invokespecial 1, 3) := by decide +kernel
theorem dX6_init_4 : decode cX6_init 4 = .ok (.aload_n 0, 1) := by decide +kernel
theorem dX6_init_5 : decode cX6_init 5 = .ok (.bipush 40, 2) := by decide +kernel
theorem dX6_init_7 : decode cX6_init 7 = .ok (.newarray .int, 2) := by decide +kernel
theorem dX6_init_9 : decode cX6_init 9 = .ok (.putfield 9, 3) := by decide +kernel
theorem dX6_init_12 : decode cX6_init 12 = .ok (.aload_n 0, 1) := by decide +kernel
theorem dX6_init_13 : decode cX6_init 13 = .ok (.bipush 40, 2) := by decide +kernel
theorem dX6_init_15 : decode cX6_init 15 = .ok (.newarray .int, 2) := by decide +kernel
theorem dX6_init_17 : decode cX6_init 17 = .ok (.putfield 13, 3) := by decide +kernel
theorem dX6_init_20 : decode cX6_init 20 = .ok (.aload_n 0, 1) := by decide +kernel
theorem dX6_init_21 : decode cX6_init 21 = .ok (.bipush 40, 2) := by decide +kernel
theorem dX6_init_23 : decode cX6_init 23 = .ok (.newarray .int, 2) := by decide +kernel
theorem dX6_init_25 : decode cX6_init 25 = .ok (.putfield 16, 3) := by decide +kernel
theorem dX6_init_28 : decode cX6_init 28 = .ok (.aload_n 0, 1) := by decide +kernel
theorem dX6_init_29 : decode cX6_init 29 = .ok (.bipush 40, 2) := by decide +kernel
theorem dX6_init_31 : decode cX6_init 31 = .ok (.newarray .int, 2) := by decide +kernel
theorem dX6_init_33 : decode cX6_init 33 = .ok (.putfield 19, 3) := by decide +kernel
theorem dX6_init_36 : decode cX6_init 36 = .ok (.return_, 1) := by decide +kernel
theorem dX6_start_0 : decode cX6_start 0 = .ok (.aload_n 0, 1) := by decide +kernel
theorem dX6_start_1 : decode cX6_start 1 = .ok (.iload_n 1, 1) := by decide +kernel
theorem dX6_start_2 : decode cX6_start 2 = .ok (.putfield 22, 3) := by decide +kernel
theorem dX6_start_5 : decode cX6_start 5 = .ok (.aload_n 0, 1) := by decide +kernel
theorem dX6_start_6 : decode cX6_start 6 = .ok (.iload_n 2, 1) := by decide +kernel
theorem dX6_start_7 : decode cX6_start 7 = .ok (.putfield 26, 3) := by decide +kernel
theorem dX6_start_10 : decode cX6_start 10 = .ok (.aload_n 0, 1) := by decide +kernel
theorem dX6_start_11 : decode cX6_start 11 = .ok (.iconst 0, 1) := by decide +kernel
theorem dX6_start_12 : decode cX6_start 12 = .ok (.putfield 29, 3) := by decide +kernel
theorem dX6_start_15 : decode cX6_start 15 = .ok (.return_, 1) := by decide +kernel
theorem dX6_find_0 : decode cX6_find 0 = .ok (.aload_n 0, 1) := by decide +kernel
theorem dX6_find_1 : decode cX6_find 1 = .ok (.invokevirtual 32, 3) := by decide +kernel
theorem dX6_find_4 : decode cX6_find 4 = .ok (.aload_n 0, 1) := by decide +kernel
theorem dX6_find_5 : decode cX6_find 5 = .ok (.invokevirtual 35, 3) := by decide +kernel
theorem dX6_find_8 : decode cX6_find 8 = .ok (.sipush 500, 3) := by decide +kernel
theorem dX6_find_11 : decode cX6_find 11 = .ok (.istore_n 1, 1) := by decide +kernel
theorem dX6_find_12 : decode cX6_find 12 = .ok (.iload_n 1, 1) := by decide +kernel
theorem dX6_find_13 : decode cX6_find 13 = .ok (.ifCond .le 30, 3) := by decide +kernel
theorem dX6_find_16 : decode cX6_find 16 = .ok (.aload_n 0, 1) := by decide +kernel
theorem dX6_find_17 : decode cX6_find 17 = .ok (.invokevirtual 38, 3) := by decide +kernel
theorem dX6_find_20 : decode cX6_find 20 = .ok (.ifCond .eq 23, 3) := by decide +kernel
theorem dX6_find_23 : decode cX6_find 23 = .ok (.aload_n 0, 1) := by decide +kernel
theorem dX6_find_24 : decode cX6_find 24 = .ok (.dup, 1) := by decide +kernel
theorem dX6_find_25 : decode cX6_find 25 = .ok (.getfield 29, 3) := by decide +kernel
theorem dX6_find_28 : decode cX6_find 28 = .ok (.iconst 1, 1) := by decide +kernel
theorem dX6_find_29 : decode cX6_find 29 = .ok (.iadd, 1) := by decide +kernel
theorem dX6_find_30 : decode cX6_find 30 = .ok (.putfield 29, 3) := by decide +kernel
theorem dX6_find_33 : decode cX6_find 33 = .ok (.aload_n 0, 1) := by decide +kernel
theorem dX6_find_34 : decode cX6_find 34 = .ok (.invokevirtual 35, 3) := by decide +kernel
theorem dX6_find_37 : decode cX6_find 37 = .ok (.iinc 1 (-1), 3) := by decide +kernel
theorem dX6_find_40 : decode cX6_find 40 = .ok (.goto (-28), 3) := by decide +kernel
theorem dX6_find_43 : decode cX6_find 43 = .ok (.return_, 1) := by decide +kernel
theorem dX6_deal_0 : decode cX6_deal 0 = .ok (.iconst 0, 1) := by decide +kernel
theorem dX6_deal_1 : decode cX6_deal 1 = .ok (.istore_n 1, 1) := by decide +kernel
theorem dX6_deal_2 : decode cX6_deal 2 = .ok (.iconst 0, 1) := by decide +kernel
theorem dX6_deal_3 : decode cX6_deal 3 = .ok (.istore_n 2, 1) := by decide +kernel
theorem dX6_deal_4 : decode cX6_deal 4 = .ok (.iload_n 2, 1) := by decide +kernel
theorem dX6_deal_5 : decode cX6_deal 5 = .ok (.aload_n 0, 1) := by decide +kernel
theorem dX6_deal_6 : decode cX6_deal 6 = .ok (.getfield 22, 3) := by decide +kernel
theorem dX6_deal_9 : decode cX6_deal 9 = .ok (.if_icmp .ge 73, 3) := by decide +kernel
theorem dX6_deal_12 : decode cX6_deal 12 = .ok (.iload_n 1, 1) := by decide +kernel
theorem dX6_deal_13 : decode cX6_deal 13 = .ok (.aload_n 0, 1) := by decide +kernel
theorem dX6_deal_14 : decode cX6_deal 14 = .ok (.getfield 9, 3) := by decide +kernel
theorem dX6_deal_17 : decode cX6_deal 17 = .ok (.iload_n 2, 1) := by decide +kernel
theorem dX6_deal_18 : decode cX6_deal 18 = .ok (.iaload, 1) := by decide +kernel
theorem dX6_deal_19 : decode cX6_deal 19 = .ok (.iadd, 1) := by decide +kernel
theorem dX6_deal_20 : decode cX6_deal 20 = .ok (.istore_n 1, 1) := by decide +kernel
theorem dX6_deal_21 : decode cX6_deal 21 = .ok (.iload_n 2, 1) := by decide +kernel
theorem dX6_deal_22 : decode cX6_deal 22 = .ok (.istore_n 3, 1) := by decide +kernel
theorem dX6_deal_23 : decode cX6_deal 23 = .ok (.iload_n 3, 1) := by decide +kernel
theorem dX6_deal_24 : decode cX6_deal 24 = .ok (.ifCond .le 45, 3) := by decide +kernel
theorem dX6_deal_27 : decode cX6_deal 27 = .ok (.aload_n 0, 1) := by decide +kernel
theorem dX6_deal_28 : decode cX6_deal 28 = .ok (.getfield 9, 3) := by decide +kernel
theorem dX6_deal_31 : decode cX6_deal 31 = .ok (.aload_n 0, 1) := by decide +kernel
theorem dX6_deal_32 : decode cX6_deal 32 = .ok (.getfield 19, 3) := by decide +kernel
theorem dX6_deal_35 : decode cX6_deal 35 = .ok (.iload_n 3, 1) := by decide +kernel
theorem dX6_deal_36 : decode cX6_deal 36 = .ok (.iconst 1, 1) := by decide +kernel
theorem dX6_deal_37 : decode cX6_deal 37 = .ok (.isub, 1) := by decide +kernel
theorem dX6_deal_38 : decode cX6_deal 38 = .ok (.iaload, 1) := by decide +kernel
theorem dX6_deal_39 : decode cX6_deal 39 = .ok (.iaload, 1) := by decide +kernel
theorem dX6_deal_40 : decode cX6_deal 40 = .ok (.aload_n 0, 1) := by decide +kernel
theorem dX6_deal_41 : decode cX6_deal 41 = .ok (.getfield 9, 3) := by decide +kernel
theorem dX6_deal_44 : decode cX6_deal 44 = .ok (.iload_n 2, 1) := by decide +kernel
theorem dX6_deal_45 : decode cX6_deal 45 = .ok (.iaload, 1) := by decide +kernel
theorem dX6_deal_46 : decode cX6_deal 46 = .ok (.if_icmp .ge 23, 3) := by decide +kernel
theorem dX6_deal_49 : decode cX6_deal 49 = .ok (.aload_n 0, 1) := by decide +kernel
theorem dX6_deal_50 : decode cX6_deal 50 = .ok (.getfield 19, 3) := by decide +kernel
theorem dX6_deal_53 : decode cX6_deal 53 = .ok (.iload_n 3, 1) := by decide +kernel
theorem dX6_deal_54 : decode cX6_deal 54 = .ok (.aload_n 0, 1) := by decide +kernel
theorem dX6_deal_55 : decode cX6_deal 55 = .ok (.getfield 19, 3) := by decide +kernel
theorem dX6_deal_58 : decode cX6_deal 58 = .ok (.iload_n 3, 1) := by decide +kernel
theorem dX6_deal_59 : decode cX6_deal 59 = .ok (.iconst 1, 1) := by decide +kernel
theorem dX6_deal_60 : decode cX6_deal 60 = .ok (.isub, 1) := by decide +kernel
theorem dX6_deal_61 : decode cX6_deal 61 = .ok (.iaload, 1) := by decide +kernel
theorem dX6_deal_62 : decode cX6_deal 62 = .ok (.iastore, 1) := by decide +kernel
theorem dX6_deal_63 : decode cX6_deal 63 = .ok (.iinc 3 (-1), 3) := by decide +kernel
theorem dX6_deal_66 : decode cX6_deal 66 = .ok (.goto (-43), 3) := by decide +kernel
theorem dX6_deal_69 : decode cX6_deal 69 = .ok (.aload_n 0, 1) := by decide +kernel
theorem dX6_deal_70 : decode cX6_deal 70 = .ok (.getfield 19, 3) := by decide +kernel
theorem dX6_deal_73 : decode cX6_deal 73 = .ok (.iload_n 3, 1) := by decide +kernel
theorem dX6_deal_74 : decode cX6_deal 74 = .ok (.iload_n 2, 1) := by decide +kernel
theorem dX6_deal_75 : decode cX6_deal 75 = .ok (.iastore, 1) := by decide +kernel
theorem dX6_deal_76 : decode cX6_deal 76 = .ok (.iinc 2 1, 3) := by decide +kernel
theorem dX6_deal_79 : decode cX6_deal 79 = .ok (.goto (-75), 3) := by decide +kernel
theorem dX6_deal_82 : decode cX6_deal 82 = .ok (.aload_n 0, 1) := by decide +kernel
theorem dX6_deal_83 : decode cX6_deal 83 = .ok (.iload_n 1, 1) := by decide +kernel
theorem dX6_deal_84 : decode cX6_deal 84 = .ok (.aload_n 0, 1) := by decide +kernel
theorem dX6_deal_85 : decode cX6_deal 85 = .ok (.getfield 26, 3) := by decide +kernel
theorem dX6_deal_88 : decode cX6_deal 88 = .ok (.invokestatic 42, 3) := by decide +kernel
theorem dX6_deal_91 : decode cX6_deal 91 = .ok (.putfield 48, 3) := by decide +kernel
theorem dX6_deal_94 : decode cX6_deal 94 = .ok (.iconst 0, 1) := by decide +kernel
theorem dX6_deal_95 : decode cX6_deal 95 = .ok (.istore_n 2, 1) := by decide +kernel
theorem dX6_deal_96 : decode cX6_deal 96 = .ok (.iload_n 2, 1) := by decide +kernel
theorem dX6_deal_97 : decode cX6_deal 97 = .ok (.aload_n 0, 1) := by decide +kernel
theorem dX6_deal_98 : decode cX6_deal 98 = .ok (.getfield 26, 3) := by decide +kernel
theorem dX6_deal_101 : decode cX6_deal 101 = .ok (.if_icmp .ge 16, 3) := by decide +kernel
theorem dX6_deal_104 : decode cX6_deal 104 = .ok (.aload_n 0, 1) := by decide +kernel
theorem dX6_deal_105 : decode cX6_deal 105 = .ok (.getfield 16, 3) := by decide +kernel
theorem dX6_deal_108 : decode cX6_deal 108 = .ok (.iload_n 2, 1) := by decide +kernel
theorem dX6_deal_109 : decode cX6_deal 109 = .ok (.iconst 0, 1) := by decide +kernel
theorem dX6_deal_110 : decode cX6_deal 110 = .ok (.iastore, 1) := by decide +kernel
theorem dX6_deal_111 : decode cX6_deal 111 = .ok (.iinc 2 1, 3) := by decide +kernel
theorem dX6_deal_114 : decode cX6_deal 114 = .ok (.goto (-18), 3) := by decide +kernel
theorem dX6_deal_117 : decode cX6_deal 117 = .ok (.iconst 0, 1) := by decide +kernel
theorem dX6_deal_118 : decode cX6_deal 118 = .ok (.istore_n 2, 1) := by decide +kernel
theorem dX6_deal_119 : decode cX6_deal 119 = .ok (.iload_n 2, 1) := by decide +kernel
theorem dX6_deal_120 : decode cX6_deal 120 = .ok (.aload_n 0, 1) := by decide +kernel
theorem dX6_deal_121 : decode cX6_deal 121 = .ok (.getfield 22, 3) := by decide +kernel
theorem dX6_deal_124 : decode cX6_deal 124 = .ok (.if_icmp .ge 84, 3) := by decide +kernel
theorem dX6_deal_127 : decode cX6_deal 127 = .ok (.iload_n 2, 1) := by decide +kernel
theorem dX6_deal_128 : decode cX6_deal 128 = .ok (.aload_n 0, 1) := by decide +kernel
theorem dX6_deal_129 : decode cX6_deal 129 = .ok (.getfield 26, 3) := by decide +kernel
theorem dX6_deal_132 : decode cX6_deal 132 = .ok (.invokestatic 42, 3) := by decide +kernel
theorem dX6_deal_135 : decode cX6_deal 135 = .ok (.istore_n 3, 1) := by decide +kernel
theorem dX6_deal_136 : decode cX6_deal 136 = .ok (.iload_n 2, 1) := by decide +kernel
theorem dX6_deal_137 : decode cX6_deal 137 = .ok (.iload_n 3, 1) := by decide +kernel
theorem dX6_deal_138 : decode cX6_deal 138 = .ok (.aload_n 0, 1) := by decide +kernel
theorem dX6_deal_139 : decode cX6_deal 139 = .ok (.getfield 26, 3) := by decide +kernel
theorem dX6_deal_142 : decode cX6_deal 142 = .ok (.imul, 1) := by decide +kernel
theorem dX6_deal_143 : decode cX6_deal 143 = .ok (.isub, 1) := by decide +kernel
theorem dX6_deal_144 : decode cX6_deal 144 = .ok (.istore 4, 2) := by decide +kernel
theorem dX6_deal_146 : decode cX6_deal 146 = .ok (.iload_n 3, 1) := by decide +kernel
theorem dX6_deal_147 : decode cX6_deal 147 = .ok (.iconst 2, 1) := by decide +kernel
theorem dX6_deal_148 : decode cX6_deal 148 = .ok (.irem, 1) := by decide +kernel
theorem dX6_deal_149 : decode cX6_deal 149 = .ok (.ifCond .ne 8, 3) := by decide +kernel
theorem dX6_deal_152 : decode cX6_deal 152 = .ok (.iload 4, 2) := by decide +kernel
theorem dX6_deal_154 : decode cX6_deal 154 = .ok (.goto 12, 3) := by decide +kernel
theorem dX6_deal_157 : decode cX6_deal 157 = .ok (.aload_n 0, 1) := by decide +kernel
theorem dX6_deal_158 : decode cX6_deal 158 = .ok (.getfield 26, 3) := by decide +kernel
theorem dX6_deal_161 : decode cX6_deal 161 = .ok (.iconst 1, 1) := by decide +kernel
theorem dX6_deal_162 : decode cX6_deal 162 = .ok (.isub, 1) := by decide +kernel
theorem dX6_deal_163 : decode cX6_deal 163 = .ok (.iload 4, 2) := by decide +kernel
theorem dX6_deal_165 : decode cX6_deal 165 = .ok (.isub, 1) := by decide +kernel
theorem dX6_deal_166 : decode cX6_deal 166 = .ok (.istore 5, 2) := by decide +kernel
theorem dX6_deal_168 : decode cX6_deal 168 = .ok (.aload_n 0, 1) := by decide +kernel
theorem dX6_deal_169 : decode cX6_deal 169 = .ok (.getfield 13, 3) := by decide +kernel
theorem dX6_deal_172 : decode cX6_deal 172 = .ok (.aload_n 0, 1) := by decide +kernel
theorem dX6_deal_173 : decode cX6_deal 173 = .ok (.getfield 19, 3) := by decide +kernel
theorem dX6_deal_176 : decode cX6_deal 176 = .ok (.iload_n 2, 1) := by decide +kernel
theorem dX6_deal_177 : decode cX6_deal 177 = .ok (.iaload, 1) := by decide +kernel
theorem dX6_deal_178 : decode cX6_deal 178 = .ok (.iload 5, 2) := by decide +kernel
theorem dX6_deal_180 : decode cX6_deal 180 = .ok (.iastore, 1) := by decide +kernel
theorem dX6_deal_181 : decode cX6_deal 181 = .ok (.aload_n 0, 1) := by decide +kernel
theorem dX6_deal_182 : decode cX6_deal 182 = .ok (.getfield 16, 3) := by decide +kernel
theorem dX6_deal_185 : decode cX6_deal 185 = .ok (.iload 5, 2) := by decide +kernel
theorem dX6_deal_187 : decode cX6_deal 187 = .ok (.dup2, 1) := by decide +kernel
theorem dX6_deal_188 : decode cX6_deal 188 = .ok (.iaload, 1) := by decide +kernel
theorem dX6_deal_189 : decode cX6_deal 189 = .ok (.aload_n 0, 1) := by decide +kernel
theorem dX6_deal_190 : decode cX6_deal 190 = .ok (.getfield 9, 3) := by decide +kernel
theorem dX6_deal_193 : decode cX6_deal 193 = .ok (.aload_n 0, 1) := by decide +kernel
theorem dX6_deal_194 : decode cX6_deal 194 = .ok (.getfield 19, 3) := by decide +kernel
theorem dX6_deal_197 : decode cX6_deal 197 = .ok (.iload_n 2, 1) := by decide +kernel
theorem dX6_deal_198 : decode cX6_deal 198 = .ok (.iaload, 1) := by decide +kernel
theorem dX6_deal_199 : decode cX6_deal 199 = .ok (.iaload, 1) := by decide +kernel
theorem dX6_deal_200 : decode cX6_deal 200 = .ok (.iadd, 1) := by decide +kernel
theorem dX6_deal_201 : decode cX6_deal 201 = .ok (.iastore, 1) := by decide +kernel
theorem dX6_deal_202 : decode cX6_deal 202 = .ok (.iinc 2 1, 3) := by decide +kernel
theorem dX6_deal_205 : decode cX6_deal 205 = .ok (.goto (-86), 3) := by decide +kernel
theorem dX6_deal_208 : decode cX6_deal 208 = .ok (.return_, 1) := by decide +kernel
theorem dX6_measure_0 : decode cX6_measure 0 = .ok (.aload_n 0, 1) := by decide +kernel
theorem dX6_measure_1 : decode cX6_measure 1 = .ok (.aload_n 0, 1) := by decide +kernel
theorem dX6_measure_2 : decode cX6_measure 2 = .ok (.getfield 16, 3) := by decide +kernel
theorem dX6_measure_5 : decode cX6_measure 5 = .ok (.iconst 0, 1) := by decide +kernel
theorem dX6_measure_6 : decode cX6_measure 6 = .ok (.iaload, 1) := by decide +kernel
theorem dX6_measure_7 : decode cX6_measure 7 = .ok (.putfield 51, 3) := by decide +kernel
theorem dX6_measure_10 : decode cX6_measure 10 = .ok (.aload_n 0, 1) := by decide +kernel
theorem dX6_measure_11 : decode cX6_measure 11 = .ok (.aload_n 0, 1) := by decide +kernel
theorem dX6_measure_12 : decode cX6_measure 12 = .ok (.getfield 16, 3) := by decide +kernel
theorem dX6_measure_15 : decode cX6_measure 15 = .ok (.iconst 0, 1) := by decide +kernel
theorem dX6_measure_16 : decode cX6_measure 16 = .ok (.iaload, 1) := by decide +kernel
theorem dX6_measure_17 : decode cX6_measure 17 = .ok (.putfield 54, 3) := by decide +kernel
theorem dX6_measure_20 : decode cX6_measure 20 = .ok (.iconst 1, 1) := by decide +kernel
theorem dX6_measure_21 : decode cX6_measure 21 = .ok (.istore_n 1, 1) := by decide +kernel
theorem dX6_measure_22 : decode cX6_measure 22 = .ok (.iload_n 1, 1) := by decide +kernel
theorem dX6_measure_23 : decode cX6_measure 23 = .ok (.aload_n 0, 1) := by decide +kernel
theorem dX6_measure_24 : decode cX6_measure 24 = .ok (.getfield 26, 3) := by decide +kernel
theorem dX6_measure_27 : decode cX6_measure 27 = .ok (.if_icmp .ge 43, 3) := by decide +kernel
theorem dX6_measure_30 : decode cX6_measure 30 = .ok (.aload_n 0, 1) := by decide +kernel
theorem dX6_measure_31 : decode cX6_measure 31 = .ok (.aload_n 0, 1) := by decide +kernel
theorem dX6_measure_32 : decode cX6_measure 32 = .ok (.getfield 51, 3) := by decide +kernel
theorem dX6_measure_35 : decode cX6_measure 35 = .ok (.aload_n 0, 1) := by decide +kernel
theorem dX6_measure_36 : decode cX6_measure 36 = .ok (.getfield 16, 3) := by decide +kernel
theorem dX6_measure_39 : decode cX6_measure 39 = .ok (.iload_n 1, 1) := by decide +kernel
theorem dX6_measure_40 : decode cX6_measure 40 = .ok (.iaload, 1) := by decide +kernel
theorem dX6_measure_41 : decode cX6_measure 41 = .ok (.invokestatic 57, 3) := by decide +kernel
theorem dX6_measure_44 : decode cX6_measure 44 = .ok (.putfield 51, 3) := by decide +kernel
theorem dX6_measure_47 : decode cX6_measure 47 = .ok (.aload_n 0, 1) := by decide +kernel
theorem dX6_measure_48 : decode cX6_measure 48 = .ok (.aload_n 0, 1) := by decide +kernel
theorem dX6_measure_49 : decode cX6_measure 49 = .ok (.getfield 54, 3) := by decide +kernel
theorem dX6_measure_52 : decode cX6_measure 52 = .ok (.aload_n 0, 1) := by decide +kernel
theorem dX6_measure_53 : decode cX6_measure 53 = .ok (.getfield 16, 3) := by decide +kernel
theorem dX6_measure_56 : decode cX6_measure 56 = .ok (.iload_n 1, 1) := by decide +kernel
theorem dX6_measure_57 : decode cX6_measure 57 = .ok (.iaload, 1) := by decide +kernel
theorem dX6_measure_58 : decode cX6_measure 58 = .ok (.invokestatic 62, 3) := by decide +kernel
theorem dX6_measure_61 : decode cX6_measure 61 = .ok (.putfield 54, 3) := by decide +kernel
theorem dX6_measure_64 : decode cX6_measure 64 = .ok (.iinc 1 1, 3) := by decide +kernel
theorem dX6_measure_67 : decode cX6_measure 67 = .ok (.goto (-45), 3) := by decide +kernel
theorem dX6_measure_70 : decode cX6_measure 70 = .ok (.return_, 1) := by decide +kernel
theorem dX6_exchangeFirst_0 : decode cX6_exchangeFirst 0 = .ok (.iconst 0, 1) := by decide +kernel
theorem dX6_exchangeFirst_1 : decode cX6_exchangeFirst 1 = .ok (.istore_n 1, 1) := by decide +kernel
theorem dX6_exchangeFirst_2 : decode cX6_exchangeFirst 2 = .ok (.iload_n 1, 1) := by decide +kernel
theorem dX6_exchangeFirst_3 : decode cX6_exchangeFirst 3 = .ok (.aload_n 0, 1) := by decide +kernel
theorem dX6_exchangeFirst_4 : decode cX6_exchangeFirst 4 = .ok (.getfield 22, 3) := by decide +kernel
theorem dX6_exchangeFirst_7 : decode cX6_exchangeFirst 7 = .ok (.if_icmp .ge 67, 3) := by decide +kernel
theorem dX6_exchangeFirst_10 : decode cX6_exchangeFirst 10 = .ok (.iload_n 1, 1) := by decide +kernel
theorem dX6_exchangeFirst_11 : decode cX6_exchangeFirst 11 = .ok (.iconst 1, 1) := by decide +kernel
theorem dX6_exchangeFirst_12 : decode cX6_exchangeFirst 12 = .ok (.iadd, 1) := by decide +kernel
theorem dX6_exchangeFirst_13 : decode cX6_exchangeFirst 13 = .ok (.istore_n 2, 1) := by decide +kernel
theorem dX6_exchangeFirst_14 : decode cX6_exchangeFirst 14 = .ok (.iload_n 2, 1) := by decide +kernel
theorem dX6_exchangeFirst_15 : decode cX6_exchangeFirst 15 = .ok (.aload_n 0, 1) := by decide +kernel
theorem dX6_exchangeFirst_16 : decode cX6_exchangeFirst 16 = .ok (.getfield 22, 3) := by decide +kernel
theorem dX6_exchangeFirst_19 : decode cX6_exchangeFirst 19 = .ok (.if_icmp .ge 49, 3) := by decide +kernel
theorem dX6_exchangeFirst_22 : decode cX6_exchangeFirst 22 = .ok (.aload_n 0, 1) := by decide +kernel
theorem dX6_exchangeFirst_23 : decode cX6_exchangeFirst 23 = .ok (.aload_n 0, 1) := by decide +kernel
theorem dX6_exchangeFirst_24 : decode cX6_exchangeFirst 24 = .ok (.getfield 13, 3) := by decide +kernel
theorem dX6_exchangeFirst_27 : decode cX6_exchangeFirst 27 = .ok (.iload_n 1, 1) := by decide +kernel
theorem dX6_exchangeFirst_28 : decode cX6_exchangeFirst 28 = .ok (.iaload, 1) := by decide +kernel
theorem dX6_exchangeFirst_29 : decode cX6_exchangeFirst 29 = .ok (.aload_n 0, 1) := by decide +kernel
theorem dX6_exchangeFirst_30 : decode cX6_exchangeFirst 30 = .ok (.getfield 13, 3) := by decide +kernel
theorem dX6_exchangeFirst_33 : decode cX6_exchangeFirst 33 = .ok (.iload_n 2, 1) := by decide +kernel
theorem dX6_exchangeFirst_34 : decode cX6_exchangeFirst 34 = .ok (.iaload, 1) := by decide +kernel
theorem dX6_exchangeFirst_35 : decode cX6_exchangeFirst 35 = .ok (.aload_n 0, 1) := by decide +kernel
theorem dX6_exchangeFirst_36 : decode cX6_exchangeFirst 36 = .ok (.getfield 9, 3) := by decide +kernel
theorem dX6_exchangeFirst_39 : decode cX6_exchangeFirst 39 = .ok (.iload_n 2, 1) := by decide +kernel
theorem dX6_exchangeFirst_40 : decode cX6_exchangeFirst 40 = .ok (.iaload, 1) := by decide +kernel
theorem dX6_exchangeFirst_41 : decode cX6_exchangeFirst 41 = .ok (.aload_n 0, 1) := by decide +kernel
theorem dX6_exchangeFirst_42 : decode cX6_exchangeFirst 42 = .ok (.getfield 9, 3) := by decide +kernel
theorem dX6_exchangeFirst_45 : decode cX6_exchangeFirst 45 = .ok (.iload_n 1, 1) := by decide +kernel
theorem dX6_exchangeFirst_46 : decode cX6_exchangeFirst 46 = .ok (.iaload, 1) := by decide +kernel
theorem dX6_exchangeFirst_47 : decode cX6_exchangeFirst 47 = .ok (.isub, 1) := by decide +kernel
theorem dX6_exchangeFirst_48 : decode cX6_exchangeFirst 48 = .ok (.invokevirtual 65, 3) := by decide +kernel
theorem dX6_exchangeFirst_51 : decode cX6_exchangeFirst 51 = .ok (.ifCond .eq 11, 3) := by decide +kernel
theorem dX6_exchangeFirst_54 : decode cX6_exchangeFirst 54 = .ok (.aload_n 0, 1) := by decide +kernel
theorem dX6_exchangeFirst_55 : decode cX6_exchangeFirst 55 = .ok (.iload_n 1, 1) := by decide +kernel
theorem dX6_exchangeFirst_56 : decode cX6_exchangeFirst 56 = .ok (.iload_n 2, 1) := by decide +kernel
theorem dX6_exchangeFirst_57 : decode cX6_exchangeFirst 57 = .ok (.invokevirtual 69, 3) := by decide +kernel
theorem dX6_exchangeFirst_60 : decode cX6_exchangeFirst 60 = .ok (.iconst 1, 1) := by decide +kernel
theorem dX6_exchangeFirst_61 : decode cX6_exchangeFirst 61 = .ok (.ireturn, 1) := by decide +kernel
theorem dX6_exchangeFirst_62 : decode cX6_exchangeFirst 62 = .ok (.iinc 2 1, 3) := by decide +kernel
theorem dX6_exchangeFirst_65 : decode cX6_exchangeFirst 65 = .ok (.goto (-51), 3) := by decide +kernel
theorem dX6_exchangeFirst_68 : decode cX6_exchangeFirst 68 = .ok (.iinc 1 1, 3) := by decide +kernel
theorem dX6_exchangeFirst_71 : decode cX6_exchangeFirst 71 = .ok (.goto (-69), 3) := by decide +kernel
theorem dX6_exchangeFirst_74 : decode cX6_exchangeFirst 74 = .ok (.iconst 0, 1) := by decide +kernel
theorem dX6_exchangeFirst_75 : decode cX6_exchangeFirst 75 = .ok (.ireturn, 1) := by decide +kernel
theorem dX6_helps_0 : decode cX6_helps 0 = .ok (.iload_n 1, 1) := by decide +kernel
theorem dX6_helps_1 : decode cX6_helps 1 = .ok (.iload_n 2, 1) := by decide +kernel
theorem dX6_helps_2 : decode cX6_helps 2 = .ok (.if_icmp .eq 7, 3) := by decide +kernel
theorem dX6_helps_5 : decode cX6_helps 5 = .ok (.iload_n 3, 1) := by decide +kernel
theorem dX6_helps_6 : decode cX6_helps 6 = .ok (.ifCond .ne 5, 3) := by decide +kernel
theorem dX6_helps_9 : decode cX6_helps 9 = .ok (.iconst 0, 1) := by decide +kernel
theorem dX6_helps_10 : decode cX6_helps 10 = .ok (.ireturn, 1) := by decide +kernel
theorem dX6_helps_11 : decode cX6_helps 11 = .ok (.aload_n 0, 1) := by decide +kernel
theorem dX6_helps_12 : decode cX6_helps 12 = .ok (.getfield 16, 3) := by decide +kernel
theorem dX6_helps_15 : decode cX6_helps 15 = .ok (.iload_n 1, 1) := by decide +kernel
theorem dX6_helps_16 : decode cX6_helps 16 = .ok (.iaload, 1) := by decide +kernel
theorem dX6_helps_17 : decode cX6_helps 17 = .ok (.iload_n 3, 1) := by decide +kernel
theorem dX6_helps_18 : decode cX6_helps 18 = .ok (.iadd, 1) := by decide +kernel
theorem dX6_helps_19 : decode cX6_helps 19 = .ok (.istore 4, 2) := by decide +kernel
theorem dX6_helps_21 : decode cX6_helps 21 = .ok (.aload_n 0, 1) := by decide +kernel
theorem dX6_helps_22 : decode cX6_helps 22 = .ok (.getfield 16, 3) := by decide +kernel
theorem dX6_helps_25 : decode cX6_helps 25 = .ok (.iload_n 2, 1) := by decide +kernel
theorem dX6_helps_26 : decode cX6_helps 26 = .ok (.iaload, 1) := by decide +kernel
theorem dX6_helps_27 : decode cX6_helps 27 = .ok (.iload_n 3, 1) := by decide +kernel
theorem dX6_helps_28 : decode cX6_helps 28 = .ok (.isub, 1) := by decide +kernel
theorem dX6_helps_29 : decode cX6_helps 29 = .ok (.istore 5, 2) := by decide +kernel
theorem dX6_helps_31 : decode cX6_helps 31 = .ok (.iload 4, 2) := by decide +kernel
theorem dX6_helps_33 : decode cX6_helps 33 = .ok (.aload_n 0, 1) := by decide +kernel
theorem dX6_helps_34 : decode cX6_helps 34 = .ok (.getfield 51, 3) := by decide +kernel
theorem dX6_helps_37 : decode cX6_helps 37 = .ok (.if_icmp .lt 12, 3) := by decide +kernel
theorem dX6_helps_40 : decode cX6_helps 40 = .ok (.iload 5, 2) := by decide +kernel
theorem dX6_helps_42 : decode cX6_helps 42 = .ok (.aload_n 0, 1) := by decide +kernel
theorem dX6_helps_43 : decode cX6_helps 43 = .ok (.getfield 51, 3) := by decide +kernel
theorem dX6_helps_46 : decode cX6_helps 46 = .ok (.if_icmp .ge 5, 3) := by decide +kernel
theorem dX6_helps_49 : decode cX6_helps 49 = .ok (.iconst 0, 1) := by decide +kernel
theorem dX6_helps_50 : decode cX6_helps 50 = .ok (.ireturn, 1) := by decide +kernel
theorem dX6_helps_51 : decode cX6_helps 51 = .ok (.iload 4, 2) := by decide +kernel
theorem dX6_helps_53 : decode cX6_helps 53 = .ok (.iload 5, 2) := by decide +kernel
theorem dX6_helps_55 : decode cX6_helps 55 = .ok (.invokestatic 57, 3) := by decide +kernel
theorem dX6_helps_58 : decode cX6_helps 58 = .ok (.istore 6, 2) := by decide +kernel
theorem dX6_helps_60 : decode cX6_helps 60 = .ok (.iload 4, 2) := by decide +kernel
theorem dX6_helps_62 : decode cX6_helps 62 = .ok (.iload 5, 2) := by decide +kernel
theorem dX6_helps_64 : decode cX6_helps 64 = .ok (.invokestatic 62, 3) := by decide +kernel
theorem dX6_helps_67 : decode cX6_helps 67 = .ok (.istore 7, 2) := by decide +kernel
theorem dX6_helps_69 : decode cX6_helps 69 = .ok (.iconst 0, 1) := by decide +kernel
theorem dX6_helps_70 : decode cX6_helps 70 = .ok (.istore 8, 2) := by decide +kernel
theorem dX6_helps_72 : decode cX6_helps 72 = .ok (.iload 8, 2) := by decide +kernel
theorem dX6_helps_74 : decode cX6_helps 74 = .ok (.aload_n 0, 1) := by decide +kernel
theorem dX6_helps_75 : decode cX6_helps 75 = .ok (.getfield 26, 3) := by decide +kernel
theorem dX6_helps_78 : decode cX6_helps 78 = .ok (.if_icmp .ge 49, 3) := by decide +kernel
theorem dX6_helps_81 : decode cX6_helps 81 = .ok (.iload 8, 2) := by decide +kernel
theorem dX6_helps_83 : decode cX6_helps 83 = .ok (.iload_n 1, 1) := by decide +kernel
theorem dX6_helps_84 : decode cX6_helps 84 = .ok (.if_icmp .eq 37, 3) := by decide +kernel
theorem dX6_helps_87 : decode cX6_helps 87 = .ok (.iload 8, 2) := by decide +kernel
theorem dX6_helps_89 : decode cX6_helps 89 = .ok (.iload_n 2, 1) := by decide +kernel
theorem dX6_helps_90 : decode cX6_helps 90 = .ok (.if_icmp .eq 31, 3) := by decide +kernel
theorem dX6_helps_93 : decode cX6_helps 93 = .ok (.iload 6, 2) := by decide +kernel
theorem dX6_helps_95 : decode cX6_helps 95 = .ok (.aload_n 0, 1) := by decide +kernel
theorem dX6_helps_96 : decode cX6_helps 96 = .ok (.getfield 16, 3) := by decide +kernel
theorem dX6_helps_99 : decode cX6_helps 99 = .ok (.iload 8, 2) := by decide +kernel
theorem dX6_helps_101 : decode cX6_helps 101 = .ok (.iaload, 1) := by decide +kernel
theorem dX6_helps_102 : decode cX6_helps 102 = .ok (.invokestatic 57, 3) := by decide +kernel
theorem dX6_helps_105 : decode cX6_helps 105 = .ok (.istore 6, 2) := by decide +kernel
theorem dX6_helps_107 : decode cX6_helps 107 = .ok (.iload 7, 2) := by decide +kernel
theorem dX6_helps_109 : decode cX6_helps 109 = .ok (.aload_n 0, 1) := by decide +kernel
theorem dX6_helps_110 : decode cX6_helps 110 = .ok (.getfield 16, 3) := by decide +kernel
theorem dX6_helps_113 : decode cX6_helps 113 = .ok (.iload 8, 2) := by decide +kernel
theorem dX6_helps_115 : decode cX6_helps 115 = .ok (.iaload, 1) := by decide +kernel
theorem dX6_helps_116 : decode cX6_helps 116 = .ok (.invokestatic 62, 3) := by decide +kernel
theorem dX6_helps_119 : decode cX6_helps 119 = .ok (.istore 7, 2) := by decide +kernel
theorem dX6_helps_121 : decode cX6_helps 121 = .ok (.iinc 8 1, 3) := by decide +kernel
theorem dX6_helps_124 : decode cX6_helps 124 = .ok (.goto (-52), 3) := by decide +kernel
theorem dX6_helps_127 : decode cX6_helps 127 = .ok (.iload 6, 2) := by decide +kernel
theorem dX6_helps_129 : decode cX6_helps 129 = .ok (.aload_n 0, 1) := by decide +kernel
theorem dX6_helps_130 : decode cX6_helps 130 = .ok (.getfield 51, 3) := by decide +kernel
theorem dX6_helps_133 : decode cX6_helps 133 = .ok (.if_icmp .gt 21, 3) := by decide +kernel
theorem dX6_helps_136 : decode cX6_helps 136 = .ok (.iload 6, 2) := by decide +kernel
theorem dX6_helps_138 : decode cX6_helps 138 = .ok (.aload_n 0, 1) := by decide +kernel
theorem dX6_helps_139 : decode cX6_helps 139 = .ok (.getfield 51, 3) := by decide +kernel
theorem dX6_helps_142 : decode cX6_helps 142 = .ok (.if_icmp .ne 16, 3) := by decide +kernel
theorem dX6_helps_145 : decode cX6_helps 145 = .ok (.iload 7, 2) := by decide +kernel
theorem dX6_helps_147 : decode cX6_helps 147 = .ok (.aload_n 0, 1) := by decide +kernel
theorem dX6_helps_148 : decode cX6_helps 148 = .ok (.getfield 54, 3) := by decide +kernel
theorem dX6_helps_151 : decode cX6_helps 151 = .ok (.if_icmp .ge 7, 3) := by decide +kernel
theorem dX6_helps_154 : decode cX6_helps 154 = .ok (.iconst 1, 1) := by decide +kernel
theorem dX6_helps_155 : decode cX6_helps 155 = .ok (.goto 4, 3) := by decide +kernel
theorem dX6_helps_158 : decode cX6_helps 158 = .ok (.iconst 0, 1) := by decide +kernel
theorem dX6_helps_159 : decode cX6_helps 159 = .ok (.ireturn, 1) := by decide +kernel
theorem dX6_exchange_0 : decode cX6_exchange 0 = .ok (.aload_n 0, 1) := by decide +kernel
theorem dX6_exchange_1 : decode cX6_exchange 1 = .ok (.getfield 13, 3) := by decide +kernel
theorem dX6_exchange_4 : decode cX6_exchange 4 = .ok (.iload_n 1, 1) := by decide +kernel
theorem dX6_exchange_5 : decode cX6_exchange 5 = .ok (.iaload, 1) := by decide +kernel
theorem dX6_exchange_6 : decode cX6_exchange 6 = .ok (.istore_n 3, 1) := by decide +kernel
theorem dX6_exchange_7 : decode cX6_exchange 7 = .ok (.aload_n 0, 1) := by decide +kernel
theorem dX6_exchange_8 : decode cX6_exchange 8 = .ok (.getfield 13, 3) := by decide +kernel
theorem dX6_exchange_11 : decode cX6_exchange 11 = .ok (.iload_n 2, 1) := by decide +kernel
theorem dX6_exchange_12 : decode cX6_exchange 12 = .ok (.iaload, 1) := by decide +kernel
theorem dX6_exchange_13 : decode cX6_exchange 13 = .ok (.istore 4, 2) := by decide +kernel
theorem dX6_exchange_15 : decode cX6_exchange 15 = .ok (.aload_n 0, 1) := by decide +kernel
theorem dX6_exchange_16 : decode cX6_exchange 16 = .ok (.getfield 16, 3) := by decide +kernel
theorem dX6_exchange_19 : decode cX6_exchange 19 = .ok (.iload_n 3, 1) := by decide +kernel
theorem dX6_exchange_20 : decode cX6_exchange 20 = .ok (.dup2, 1) := by decide +kernel
theorem dX6_exchange_21 : decode cX6_exchange 21 = .ok (.iaload, 1) := by decide +kernel
theorem dX6_exchange_22 : decode cX6_exchange 22 = .ok (.aload_n 0, 1) := by decide +kernel
theorem dX6_exchange_23 : decode cX6_exchange 23 = .ok (.getfield 9, 3) := by decide +kernel
theorem dX6_exchange_26 : decode cX6_exchange 26 = .ok (.iload_n 2, 1) := by decide +kernel
theorem dX6_exchange_27 : decode cX6_exchange 27 = .ok (.iaload, 1) := by decide +kernel
theorem dX6_exchange_28 : decode cX6_exchange 28 = .ok (.aload_n 0, 1) := by decide +kernel
theorem dX6_exchange_29 : decode cX6_exchange 29 = .ok (.getfield 9, 3) := by decide +kernel
theorem dX6_exchange_32 : decode cX6_exchange 32 = .ok (.iload_n 1, 1) := by decide +kernel
theorem dX6_exchange_33 : decode cX6_exchange 33 = .ok (.iaload, 1) := by decide +kernel
theorem dX6_exchange_34 : decode cX6_exchange 34 = .ok (.isub, 1) := by decide +kernel
theorem dX6_exchange_35 : decode cX6_exchange 35 = .ok (.iadd, 1) := by decide +kernel
theorem dX6_exchange_36 : decode cX6_exchange 36 = .ok (.iastore, 1) := by decide +kernel
theorem dX6_exchange_37 : decode cX6_exchange 37 = .ok (.aload_n 0, 1) := by decide +kernel
theorem dX6_exchange_38 : decode cX6_exchange 38 = .ok (.getfield 16, 3) := by decide +kernel
theorem dX6_exchange_41 : decode cX6_exchange 41 = .ok (.iload 4, 2) := by decide +kernel
theorem dX6_exchange_43 : decode cX6_exchange 43 = .ok (.dup2, 1) := by decide +kernel
theorem dX6_exchange_44 : decode cX6_exchange 44 = .ok (.iaload, 1) := by decide +kernel
theorem dX6_exchange_45 : decode cX6_exchange 45 = .ok (.aload_n 0, 1) := by decide +kernel
theorem dX6_exchange_46 : decode cX6_exchange 46 = .ok (.getfield 9, 3) := by decide +kernel
theorem dX6_exchange_49 : decode cX6_exchange 49 = .ok (.iload_n 1, 1) := by decide +kernel
theorem dX6_exchange_50 : decode cX6_exchange 50 = .ok (.iaload, 1) := by decide +kernel
theorem dX6_exchange_51 : decode cX6_exchange 51 = .ok (.aload_n 0, 1) := by decide +kernel
theorem dX6_exchange_52 : decode cX6_exchange 52 = .ok (.getfield 9, 3) := by decide +kernel
theorem dX6_exchange_55 : decode cX6_exchange 55 = .ok (.iload_n 2, 1) := by decide +kernel
theorem dX6_exchange_56 : decode cX6_exchange 56 = .ok (.iaload, 1) := by decide +kernel
theorem dX6_exchange_57 : decode cX6_exchange 57 = .ok (.isub, 1) := by decide +kernel
theorem dX6_exchange_58 : decode cX6_exchange 58 = .ok (.iadd, 1) := by decide +kernel
theorem dX6_exchange_59 : decode cX6_exchange 59 = .ok (.iastore, 1) := by decide +kernel
theorem dX6_exchange_60 : decode cX6_exchange 60 = .ok (.aload_n 0, 1) := by decide +kernel
theorem dX6_exchange_61 : decode cX6_exchange 61 = .ok (.getfield 13, 3) := by decide +kernel
theorem dX6_exchange_64 : decode cX6_exchange 64 = .ok (.iload_n 1, 1) := by decide +kernel
theorem dX6_exchange_65 : decode cX6_exchange 65 = .ok (.iload 4, 2) := by decide +kernel
theorem dX6_exchange_67 : decode cX6_exchange 67 = .ok (.iastore, 1) := by decide +kernel
theorem dX6_exchange_68 : decode cX6_exchange 68 = .ok (.aload_n 0, 1) := by decide +kernel
theorem dX6_exchange_69 : decode cX6_exchange 69 = .ok (.getfield 13, 3) := by decide +kernel
theorem dX6_exchange_72 : decode cX6_exchange 72 = .ok (.iload_n 2, 1) := by decide +kernel
theorem dX6_exchange_73 : decode cX6_exchange 73 = .ok (.iload_n 3, 1) := by decide +kernel
theorem dX6_exchange_74 : decode cX6_exchange 74 = .ok (.iastore, 1) := by decide +kernel
theorem dX6_exchange_75 : decode cX6_exchange 75 = .ok (.return_, 1) := by decide +kernel
