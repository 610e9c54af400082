theorem dX5_init_0 : decode cX5_init 0 = .ok (.aload_n 0, 1) := by decide +kernel
theorem dX5_init_1 : decode cX5_init 1 = .ok (.invokespecial 3, 3) := by decide +kernel
theorem dX5_init_4 : decode cX5_init 4 = .ok (.aload_n 0, 1) := by decide +kernel
theorem dX5_init_5 : decode cX5_init 5 = .ok (.new 9, 3) := by decide +kernel
theorem dX5_init_8 : decode cX5_init 8 = .ok (.dup, 1) := by decide +kernel
theorem dX5_init_9 : decode cX5_init 9 = .ok (.invokespecial 11, 3) := by decide +kernel
theorem dX5_init_12 : decode cX5_init 12 = .ok (.putfield 12, 3) := by decide +kernel
theorem dX5_init_15 : decode cX5_init 15 = .ok (.aload_n 0, 1) := by decide +kernel
theorem dX5_init_16 : decode cX5_init 16 = .ok (.new 18, 3) := by decide +kernel
theorem dX5_init_19 : decode cX5_init 19 = .ok (.dup, 1) := by decide +kernel
theorem dX5_init_20 : decode cX5_init 20 = .ok (.invokespecial 20, 3) := by decide +kernel
theorem dX5_init_23 : decode cX5_init 23 = .ok (.putfield 21, 3) := by decide +kernel
theorem dX5_init_26 : decode cX5_init 26 = .ok (.aload_n 0, 1) := by decide +kernel
theorem dX5_init_27 : decode cX5_init 27 = .ok (.new 25, 3) := by decide +kernel
theorem dX5_init_30 : decode cX5_init 30 = .ok (.dup, 1) := by decide +kernel
theorem dX5_init_31 : decode cX5_init 31 = .ok (.invokespecial 27, 3) := by decide +kernel
theorem dX5_init_34 : decode cX5_init 34 = .ok (.putfield 28, 3) := by decide +kernel
theorem dX5_init_37 : decode cX5_init 37 = .ok (.aload_n 0, 1) := by decide +kernel
theorem dX5_init_38 : decode cX5_init 38 = .ok (.bipush 60, 2) := by decide +kernel
theorem dX5_init_40 : decode cX5_init 40 = .ok (.newarray .int, 2) := by decide +kernel
theorem dX5_init_42 : decode cX5_init 42 = .ok (.putfield 32, 3) := by decide +kernel
theorem dX5_init_45 : decode cX5_init 45 = .ok (.aload_n 0, 1) := by decide +kernel
theorem dX5_init_46 : decode cX5_init 46 = .ok (.sipush 200, 3) := by decide +kernel
theorem dX5_init_49 : decode cX5_init 49 = .ok (.newarray .int, 2) := by decide +kernel
theorem dX5_init_51 : decode cX5_init 51 = .ok (.putfield 36, 3) := by decide +kernel
theorem dX5_init_54 : decode cX5_init 54 = .ok (.aload_n 0, 1) := by decide +kernel
theorem dX5_init_55 : decode cX5_init 55 = .ok (.sipush 200, 3) := by decide +kernel
theorem dX5_init_58 : decode cX5_init 58 = .ok (.newarray .int, 2) := by decide +kernel
theorem dX5_init_60 : decode cX5_init 60 = .ok (.putfield 39, 3) := by decide +kernel
theorem dX5_init_63 : decode cX5_init 63 = .ok (.aload_n 0, 1) := by decide +kernel
theorem dX5_init_64 : decode cX5_init 64 = .ok (.sipush 200, 3) := by decide +kernel
theorem dX5_init_67 : decode cX5_init 67 = .ok (.newarray .int, 2) := by decide +kernel
theorem dX5_init_69 : decode cX5_init 69 = .ok (.putfield 42, 3) := by decide +kernel
theorem dX5_init_72 : decode cX5_init 72 = .ok (.aload_n 0, 1) := by decide +kernel
theorem dX5_init_73 : decode cX5_init 73 = .ok (.sipush 200, 3) := by decide +kernel
theorem dX5_init_76 : decode cX5_init 76 = .ok (.newarray .int, 2) := by decide +kernel
theorem dX5_init_78 : decode cX5_init 78 = .ok (.putfield 45, 3) := by decide +kernel
theorem dX5_init_81 : decode cX5_init 81 = .ok (.aload_n 0, 1) := by decide +kernel
theorem dX5_init_82 : decode cX5_init 82 = .ok (.bipush 60, 2) := by decide +kernel
theorem dX5_init_84 : decode cX5_init 84 = .ok (.newarray .int, 2) := by decide +kernel
theorem dX5_init_86 : decode cX5_init 86 = .ok (.putfield 48, 3) := by decide +kernel
theorem dX5_init_89 : decode cX5_init 89 = .ok (.aload_n 0, 1) := by decide +kernel
theorem dX5_init_90 : decode cX5_init 90 = .ok (.bipush 60, 2) := by decide +kernel
theorem dX5_init_92 : decode cX5_init 92 = .ok (.newarray .int, 2) := by decide +kernel
theorem dX5_init_94 : decode cX5_init 94 = .ok (.putfield 51, 3) := by decide +kernel
theorem dX5_init_97 : decode cX5_init 97 = .ok (.aload_n 0, 1) := by decide +kernel
theorem dX5_init_98 : decode cX5_init 98 = .ok (.bipush 60, 2) := by decide +kernel
theorem dX5_init_100 : decode cX5_init 100 = .ok (.newarray .int, 2) := by decide +kernel
theorem dX5_init_102 : decode cX5_init 102 = .ok (.putfield 54, 3) := by decide +kernel
theorem dX5_init_105 : decode cX5_init 105 = .ok (.aload_n 0, 1) := by decide +kernel
theorem dX5_init_106 : decode cX5_init 106 = .ok (.bipush 60, 2) := by decide +kernel
theorem dX5_init_108 : decode cX5_init 108 = .ok (.newarray .int, 2) := by decide +kernel
theorem dX5_init_110 : decode cX5_init 110 = .ok (.putfield 57, 3) := by decide +kernel
theorem dX5_init_113 : decode cX5_init 113 = .ok (.aload_n 0, 1) := by decide +kernel
theorem dX5_init_114 : decode cX5_init 114 = .ok (.bipush 60, 2) := by decide +kernel
theorem dX5_init_116 : decode cX5_init 116 = .ok (.newarray .int, 2) := by decide +kernel
theorem dX5_init_118 : decode cX5_init 118 = .ok (.putfield 60, 3) := by decide +kernel
theorem dX5_init_121 : decode cX5_init 121 = .ok (.aload_n 0, 1) := by decide +kernel
theorem dX5_init_122 : decode cX5_init 122 = .ok (.bipush 60, 2) := by decide +kernel
theorem dX5_init_124 : decode cX5_init 124 = .ok (.newarray .int, 2) := by decide +kernel
theorem dX5_init_126 : decode cX5_init 126 = .ok (.putfield 63, 3) := by decide +kernel
theorem dX5_init_129 : decode cX5_init 129 = .ok (.return_, 1) := by decide +kernel
theorem dX5_renew_0 : decode cX5_renew 0 = .ok (.aload_n 0, 1) := by decide +kernel
theorem dX5_renew_1 : decode cX5_renew 1 = .ok (.getfield 12, 3) := by decide +kernel
theorem dX5_renew_4 : decode cX5_renew 4 = .ok (.aload_n 1, 1) := by decide +kernel
theorem dX5_renew_5 : decode cX5_renew 5 = .ok (.invokevirtual 66, 3) := by decide +kernel
theorem dX5_renew_8 : decode cX5_renew 8 = .ok (.aload_n 0, 1) := by decide +kernel
theorem dX5_renew_9 : decode cX5_renew 9 = .ok (.getfield 21, 3) := by decide +kernel
theorem dX5_renew_12 : decode cX5_renew 12 = .ok (.iconst 0, 1) := by decide +kernel
theorem dX5_renew_13 : decode cX5_renew 13 = .ok (.putfield 70, 3) := by decide +kernel
theorem dX5_renew_16 : decode cX5_renew 16 = .ok (.aload_n 0, 1) := by decide +kernel
theorem dX5_renew_17 : decode cX5_renew 17 = .ok (.getfield 21, 3) := by decide +kernel
theorem dX5_renew_20 : decode cX5_renew 20 = .ok (.iconst 0, 1) := by decide +kernel
theorem dX5_renew_21 : decode cX5_renew 21 = .ok (.putfield 74, 3) := by decide +kernel
theorem dX5_renew_24 : decode cX5_renew 24 = .ok (.aload_n 0, 1) := by decide +kernel
theorem dX5_renew_25 : decode cX5_renew 25 = .ok (.getfield 28, 3) := by decide +kernel
theorem dX5_renew_28 : decode cX5_renew 28 = .ok (.invokevirtual 77, 3) := by decide +kernel
theorem dX5_renew_31 : decode cX5_renew 31 = .ok (.aload_n 0, 1) := by decide +kernel
theorem dX5_renew_32 : decode cX5_renew 32 = .ok (.iconst 0, 1) := by decide +kernel
theorem dX5_renew_33 : decode cX5_renew 33 = .ok (.putfield 80, 3) := by decide +kernel
theorem dX5_renew_36 : decode cX5_renew 36 = .ok (.aload_n 0, 1) := by decide +kernel
theorem dX5_renew_37 : decode cX5_renew 37 = .ok (.iconst 0, 1) := by decide +kernel
theorem dX5_renew_38 : decode cX5_renew 38 = .ok (.putfield 83, 3) := by decide +kernel
theorem dX5_renew_41 : decode cX5_renew 41 = .ok (.aload_n 0, 1) := by decide +kernel
theorem dX5_renew_42 : decode cX5_renew 42 = .ok (.iconst 0, 1) := by decide +kernel
theorem dX5_renew_43 : decode cX5_renew 43 = .ok (.putfield 86, 3) := by decide +kernel
theorem dX5_renew_46 : decode cX5_renew 46 = .ok (.return_, 1) := by decide +kernel
theorem dX5_copyFrom_0 : decode cX5_copyFrom 0 = .ok (.aload_n 0, 1) := by decide +kernel
theorem dX5_copyFrom_1 : decode cX5_copyFrom 1 = .ok (.getfield 12, 3) := by decide +kernel
theorem dX5_copyFrom_4 : decode cX5_copyFrom 4 = .ok (.aload_n 1, 1) := by decide +kernel
theorem dX5_copyFrom_5 : decode cX5_copyFrom 5 = .ok (.getfield 12, 3) := by decide +kernel
theorem dX5_copyFrom_8 : decode cX5_copyFrom 8 = .ok (.invokevirtual 66, 3) := by decide +kernel
theorem dX5_copyFrom_11 : decode cX5_copyFrom 11 = .ok (.aload_n 0, 1) := by decide +kernel
theorem dX5_copyFrom_12 : decode cX5_copyFrom 12 = .ok (.getfield 21, 3) := by decide +kernel
theorem dX5_copyFrom_15 : decode cX5_copyFrom 15 = .ok (.aload_n 1, 1) := by decide +kernel
theorem dX5_copyFrom_16 : decode cX5_copyFrom 16 = .ok (.getfield 21, 3) := by decide +kernel
theorem dX5_copyFrom_19 : decode cX5_copyFrom 19 = .ok (.invokevirtual 89, 3) := by decide +kernel
theorem dX5_copyFrom_22 : decode cX5_copyFrom 22 = .ok (.aload_n 0, 1) := by decide +kernel
theorem dX5_copyFrom_23 : decode cX5_copyFrom 23 = .ok (.getfield 28, 3) := by decide +kernel
theorem dX5_copyFrom_26 : decode cX5_copyFrom 26 = .ok (.aload_n 1, 1) := by decide +kernel
theorem dX5_copyFrom_27 : decode cX5_copyFrom 27 = .ok (.getfield 28, 3) := by decide +kernel
theorem dX5_copyFrom_30 : decode cX5_copyFrom 30 = .ok (.invokevirtual 92, 3) := by decide +kernel
theorem dX5_copyFrom_33 : decode cX5_copyFrom 33 = .ok (.aload_n 0, 1) := by decide +kernel
theorem dX5_copyFrom_34 : decode cX5_copyFrom 34 = .ok (.aload_n 1, 1) := by decide +kernel
theorem dX5_copyFrom_35 : decode cX5_copyFrom 35 = .ok (.getfield 80, 3) := by decide +kernel
theorem dX5_copyFrom_38 : decode cX5_copyFrom 38 = .ok (.putfield 80, 3) := by decide +kernel
theorem dX5_copyFrom_41 : decode cX5_copyFrom 41 = .ok (.aload_n 1, 1) := by decide +kernel
theorem dX5_copyFrom_42 : decode cX5_copyFrom 42 = .ok (.getfield 32, 3) := by decide +kernel
theorem dX5_copyFrom_45 : decode cX5_copyFrom 45 = .ok (.iconst 0, 1) := by decide +kernel
theorem dX5_copyFrom_46 : decode cX5_copyFrom 46 = .ok (.aload_n 0, 1) := by decide +kernel
theorem dX5_copyFrom_47 : decode cX5_copyFrom 47 = .ok (.getfield 32, 3) := by decide +kernel
theorem dX5_copyFrom_50 : decode cX5_copyFrom 50 = .ok (.iconst 0, 1) := by decide +kernel
theorem dX5_copyFrom_51 : decode cX5_copyFrom 51 = .ok (.bipush 60, 2) := by decide +kernel
theorem dX5_copyFrom_53 : decode cX5_copyFrom 53 = .ok (.invokestatic 95, 3) := by decide +kernel
theorem dX5_copyFrom_56 : decode cX5_copyFrom 56 = .ok (.aload_n 0, 1) := by decide +kernel
theorem dX5_copyFrom_57 : decode cX5_copyFrom 57 = .ok (.aload_n 1, 1) := by decide +kernel
theorem dX5_copyFrom_58 : decode cX5_copyFrom 58 = .ok (.getfield 83, 3) := by decide +kernel
theorem dX5_copyFrom_61 : decode cX5_copyFrom 61 = .ok (.putfield 83, 3) := by decide +kernel
theorem dX5_copyFrom_64 : decode cX5_copyFrom 64 = .ok (.aload_n 1, 1) := by decide +kernel
theorem dX5_copyFrom_65 : decode cX5_copyFrom 65 = .ok (.getfield 36, 3) := by decide +kernel
theorem dX5_copyFrom_68 : decode cX5_copyFrom 68 = .ok (.iconst 0, 1) := by decide +kernel
theorem dX5_copyFrom_69 : decode cX5_copyFrom 69 = .ok (.aload_n 0, 1) := by decide +kernel
theorem dX5_copyFrom_70 : decode cX5_copyFrom 70 = .ok (.getfield 36, 3) := by decide +kernel
theorem dX5_copyFrom_73 : decode cX5_copyFrom 73 = .ok (.iconst 0, 1) := by decide +kernel
theorem dX5_copyFrom_74 : decode cX5_copyFrom 74 = .ok (.sipush 200, 3) := by decide +kernel
theorem dX5_copyFrom_77 : decode cX5_copyFrom 77 = .ok (.invokestatic 95, 3) := by decide +kernel
theorem dX5_copyFrom_80 : decode cX5_copyFrom 80 = .ok (.aload_n 1, 1) := by decide +kernel
theorem dX5_copyFrom_81 : decode cX5_copyFrom 81 = .ok (.getfield 39, 3) := by decide +kernel
theorem dX5_copyFrom_84 : decode cX5_copyFrom 84 = .ok (.iconst 0, 1) := by decide +kernel
theorem dX5_copyFrom_85 : decode cX5_copyFrom 85 = .ok (.aload_n 0, 1) := by decide +kernel
theorem dX5_copyFrom_86 : decode cX5_copyFrom 86 = .ok (.getfield 39, 3) := by decide +kernel
theorem dX5_copyFrom_89 : decode cX5_copyFrom 89 = .ok (.iconst 0, 1) := by decide +kernel
theorem dX5_copyFrom_90 : decode cX5_copyFrom 90 = .ok (.sipush 200, 3) := by decide +kernel
theorem dX5_copyFrom_93 : decode cX5_copyFrom 93 = .ok (.invokestatic 95, 3) := by decide +kernel
theorem dX5_copyFrom_96 : decode cX5_copyFrom 96 = .ok (.aload_n 1, 1) := by decide +kernel
theorem dX5_copyFrom_97 : decode cX5_copyFrom 97 = .ok (.getfield 42, 3) := by decide +kernel
theorem dX5_copyFrom_100 : decode cX5_copyFrom 100 = .ok (.iconst 0, 1) := by decide +kernel
theorem dX5_copyFrom_101 : decode cX5_copyFrom 101 = .ok (.aload_n 0, 1) := by decide +kernel
theorem dX5_copyFrom_102 : decode cX5_copyFrom 102 = .ok (.getfield 42, 3) := by decide +kernel
theorem dX5_copyFrom_105 : decode cX5_copyFrom 105 = .ok (.iconst 0, 1) := by decide +kernel
theorem dX5_copyFrom_106 : decode cX5_copyFrom 106 = .ok (.sipush 200, 3) := by decide +kernel
theorem dX5_copyFrom_109 : decode cX5_copyFrom 109 = .ok (.invokestatic 95, 3) := by decide +kernel
theorem dX5_copyFrom_112 : decode cX5_copyFrom 112 = .ok (.aload_n 1, 1) := by decide +kernel
theorem dX5_copyFrom_113 : decode cX5_copyFrom 113 = .ok (.getfield 45, 3) := by decide +kernel
theorem dX5_copyFrom_116 : decode cX5_copyFrom 116 = .ok (.iconst 0, 1) := by decide +kernel
theorem dX5_copyFrom_117 : decode cX5_copyFrom 117 = .ok (.aload_n 0, 1) := by decide +kernel
theorem dX5_copyFrom_118 : decode cX5_copyFrom 118 = .ok (.getfield 45, 3) := by decide +kernel
theorem dX5_copyFrom_121 : decode cX5_copyFrom 121 = .ok (.iconst 0, 1) := by decide +kernel
theorem dX5_copyFrom_122 : decode cX5_copyFrom 122 = .ok (.sipush 200, 3) := by decide +kernel
theorem dX5_copyFrom_125 : decode cX5_copyFrom 125 = .ok (.invokestatic 95, 3) := by decide +kernel
theorem dX5_copyFrom_128 : decode cX5_copyFrom 128 = .ok (.aload_n 0, 1) := by decide +kernel
theorem dX5_copyFrom_129 : decode cX5_copyFrom 129 = .ok (.aload_n 1, 1) := by decide +kernel
theorem dX5_copyFrom_130 : decode cX5_copyFrom 130 = .ok (.getfield 86, 3) := by decide +kernel
theorem dX5_copyFrom_133 : decode cX5_copyFrom 133 = .ok (.putfield 86, 3) := by decide +kernel
theorem dX5_copyFrom_136 : decode cX5_copyFrom 136 = .ok (.aload_n 1, 1) := by decide +kernel
theorem dX5_copyFrom_137 : decode cX5_copyFrom 137 = .ok (.getfield 48, 3) := by decide +kernel
theorem dX5_copyFrom_140 : decode cX5_copyFrom 140 = .ok (.iconst 0, 1) := by decide +kernel
theorem dX5_copyFrom_141 : decode cX5_copyFrom 141 = .ok (.aload_n 0, 1) := by decide +kernel
theorem dX5_copyFrom_142 : decode cX5_copyFrom 142 = .ok (.getfield 48, 3) := by decide +kernel
theorem dX5_copyFrom_145 : decode cX5_copyFrom 145 = .ok (.iconst 0, 1) := by decide +kernel
theorem dX5_copyFrom_146 : decode cX5_copyFrom 146 = .ok (.bipush 60, 2) := by decide +kernel
theorem dX5_copyFrom_148 : decode cX5_copyFrom 148 = .ok (.invokestatic 95, 3) := by decide +kernel
theorem dX5_copyFrom_151 : decode cX5_copyFrom 151 = .ok (.aload_n 1, 1) := by decide +kernel
theorem dX5_copyFrom_152 : decode cX5_copyFrom 152 = .ok (.getfield 51, 3) := by decide +kernel
theorem dX5_copyFrom_155 : decode cX5_copyFrom 155 = .ok (.iconst 0, 1) := by decide +kernel
theorem dX5_copyFrom_156 : decode cX5_copyFrom 156 = .ok (.aload_n 0, 1) := by decide +kernel
theorem dX5_copyFrom_157 : decode cX5_copyFrom 157 = .ok (.getfield 51, 3) := by decide +kernel
theorem dX5_copyFrom_160 : decode cX5_copyFrom 160 = .ok (.iconst 0, 1) := by decide +kernel
theorem dX5_copyFrom_161 : decode cX5_copyFrom 161 = .ok (.bipush 60, 2) := by decide +kernel
theorem dX5_copyFrom_163 : decode cX5_copyFrom 163 = .ok (.invokestatic 95, 3) := by decide +kernel
theorem dX5_copyFrom_166 : decode cX5_copyFrom 166 = .ok (.aload_n 1, 1) := by decide +kernel
theorem dX5_copyFrom_167 : decode cX5_copyFrom 167 = .ok (.getfield 54, 3) := by decide +kernel
theorem dX5_copyFrom_170 : decode cX5_copyFrom 170 = .ok (.iconst 0, 1) := by decide +kernel
theorem dX5_copyFrom_171 : decode cX5_copyFrom 171 = .ok (.aload_n 0, 1) := by decide +kernel
theorem dX5_copyFrom_172 : decode cX5_copyFrom 172 = .ok (.getfield 54, 3) := by decide +kernel
theorem dX5_copyFrom_175 : decode cX5_copyFrom 175 = .ok (.iconst 0, 1) := by decide +kernel
theorem dX5_copyFrom_176 : decode cX5_copyFrom 176 = .ok (.bipush 60, 2) := by decide +kernel
theorem dX5_copyFrom_178 : decode cX5_copyFrom 178 = .ok (.invokestatic 95, 3) := by decide +kernel
theorem dX5_copyFrom_181 : decode cX5_copyFrom 181 = .ok (.aload_n 1, 1) := by decide +kernel
theorem dX5_copyFrom_182 : decode cX5_copyFrom 182 = .ok (.getfield 57, 3) := by decide +kernel
theorem dX5_copyFrom_185 : decode cX5_copyFrom 185 = .ok (.iconst 0, 1) := by decide +kernel
theorem dX5_copyFrom_186 : decode cX5_copyFrom 186 = .ok (.aload_n 0, 1) := by decide +kernel
theorem dX5_copyFrom_187 : decode cX5_copyFrom 187 = .ok (.getfield 57, 3) := by decide +kernel
theorem dX5_copyFrom_190 : decode cX5_copyFrom 190 = .ok (.iconst 0, 1) := by decide +kernel
theorem dX5_copyFrom_191 : decode cX5_copyFrom 191 = .ok (.bipush 60, 2) := by decide +kernel
theorem dX5_copyFrom_193 : decode cX5_copyFrom 193 = .ok (.invokestatic 95, 3) := by decide +kernel
theorem dX5_copyFrom_196 : decode cX5_copyFrom 196 = .ok (.aload_n 1, 1) := by decide +kernel
theorem dX5_copyFrom_197 : decode cX5_copyFrom 197 = .ok (.getfield 60, 3) := by decide +kernel
theorem dX5_copyFrom_200 : decode cX5_copyFrom 200 = .ok (.iconst 0, 1) := by decide +kernel
theorem dX5_copyFrom_201 : decode cX5_copyFrom 201 = .ok (.aload_n 0, 1) := by decide +kernel
theorem dX5_copyFrom_202 : decode cX5_copyFrom 202 = .ok (.getfield 60, 3) := by decide +kernel
theorem dX5_copyFrom_205 : decode cX5_copyFrom 205 = .ok (.iconst 0, 1) := by decide +kernel
theorem dX5_copyFrom_206 : decode cX5_copyFrom 206 = .ok (.bipush 60, 2) := by decide +kernel
theorem dX5_copyFrom_208 : decode cX5_copyFrom 208 = .ok (.invokestatic 95, 3) := by decide +kernel
theorem dX5_copyFrom_211 : decode cX5_copyFrom 211 = .ok (.aload_n 1, 1) := by decide +kernel
theorem dX5_copyFrom_212 : decode cX5_copyFrom 212 = .ok (.getfield 63, 3) := by decide +kernel
theorem dX5_copyFrom_215 : decode cX5_copyFrom 215 = .ok (.iconst 0, 1) := by decide +kernel
theorem dX5_copyFrom_216 : decode cX5_copyFrom 216 = .ok (.aload_n 0, 1) := by decide +kernel
theorem dX5_copyFrom_217 : decode cX5_copyFrom 217 = .ok (.getfield 63, 3) := by decide +kernel
theorem dX5_copyFrom_220 : decode cX5_copyFrom 220 = .ok (.iconst 0, 1) := by decide +kernel
theorem dX5_copyFrom_221 : decode cX5_copyFrom 221 = .ok (.bipush 60, 2) := by decide +kernel
theorem dX5_copyFrom_223 : decode cX5_copyFrom 223 = .ok (.invokestatic 95, 3) := by decide +kernel
theorem dX5_copyFrom_226 : decode cX5_copyFrom 226 = .ok (.return_, 1) := by decide +kernel
theorem dX5_hasCell_0 : decode cX5_hasCell 0 = .ok (.iload_n 1, 1) := by decide +kernel
theorem dX5_hasCell_1 : decode cX5_hasCell 1 = .ok (.ifCond .lt 15, 3) := by decide +kernel
theorem dX5_hasCell_4 : decode cX5_hasCell 4 = .ok (.iload_n 1, 1) := by decide +kernel
theorem dX5_hasCell_5 : decode cX5_hasCell 5 = .ok (.aload_n 0, 1) := by decide +kernel
theorem dX5_hasCell_6 : decode cX5_hasCell 6 = .ok (.getfield 80, 3) := by decide +kernel
theorem dX5_hasCell_9 : decode cX5_hasCell 9 = .ok (.if_icmp .ge 7, 3) := by decide +kernel
theorem dX5_hasCell_12 : decode cX5_hasCell 12 = .ok (.iconst 1, 1) := by decide +kernel
theorem dX5_hasCell_13 : decode cX5_hasCell 13 = .ok (.goto 4, 3) := by decide +kernel
theorem dX5_hasCell_16 : decode cX5_hasCell 16 = .ok (.iconst 0, 1) := by decide +kernel
theorem dX5_hasCell_17 : decode cX5_hasCell 17 = .ok (.ireturn, 1) := by decide +kernel
theorem dX5_addCell_0 : decode cX5_addCell 0 = .ok (.aload_n 0, 1) := by decide +kernel
theorem dX5_addCell_1 : decode cX5_addCell 1 = .ok (.getfield 80, 3) := by decide +kernel
theorem dX5_addCell_4 : decode cX5_addCell 4 = .ok (.bipush 60, 2) := by decide +kernel
theorem dX5_addCell_6 : decode cX5_addCell 6 = .ok (.if_icmp .lt 5, 3) := by decide +kernel
theorem dX5_addCell_9 : decode cX5_addCell 9 = .ok (.iconst (-1), 1) := by decide +kernel
theorem dX5_addCell_10 : decode cX5_addCell 10 = .ok (.ireturn, 1) := by decide +kernel
theorem dX5_addCell_11 : decode cX5_addCell 11 = .ok (.aload_n 0, 1) := by decide +kernel
theorem dX5_addCell_12 : decode cX5_addCell 12 = .ok (.getfield 32, 3) := by decide +kernel
theorem dX5_addCell_15 : decode cX5_addCell 15 = .ok (.aload_n 0, 1) := by decide +kernel
theorem dX5_addCell_16 : decode cX5_addCell 16 = .ok (.getfield 80, 3) := by decide +kernel
theorem dX5_addCell_19 : decode cX5_addCell 19 = .ok (.iload_n 1, 1) := by decide +kernel
theorem dX5_addCell_20 : decode cX5_addCell 20 = .ok (.iastore, 1) := by decide +kernel
theorem dX5_addCell_21 : decode cX5_addCell 21 = .ok (.aload_n 0, 1) := by decide +kernel
theorem dX5_addCell_22 : decode cX5_addCell 22 = .ok (.getfield 48, 3) := by decide +kernel
theorem dX5_addCell_25 : decode cX5_addCell 25 = .ok (.aload_n 0, 1) := by decide +kernel
theorem dX5_addCell_26 : decode cX5_addCell 26 = .ok (.getfield 80, 3) := by decide +kernel
theorem dX5_addCell_29 : decode cX5_addCell 29 = .ok (.iconst 0, 1) := by decide +kernel
theorem dX5_addCell_30 : decode cX5_addCell 30 = .ok (.iastore, 1) := by decide +kernel
theorem dX5_addCell_31 : decode cX5_addCell 31 = .ok (.aload_n 0, 1) := by decide +kernel
theorem dX5_addCell_32 : decode cX5_addCell 32 = .ok (.getfield 63, 3) := by decide +kernel
theorem dX5_addCell_35 : decode cX5_addCell 35 = .ok (.aload_n 0, 1) := by decide +kernel
theorem dX5_addCell_36 : decode cX5_addCell 36 = .ok (.getfield 80, 3) := by decide +kernel
theorem dX5_addCell_39 : decode cX5_addCell 39 = .ok (.iconst 0, 1) := by decide +kernel
theorem dX5_addCell_40 : decode cX5_addCell 40 = .ok (.iastore, 1) := by decide +kernel
theorem dX5_addCell_41 : decode cX5_addCell 41 = .ok (.aload_n 0, 1) := by decide +kernel
theorem dX5_addCell_42 : decode cX5_addCell 42 = .ok (.getfield 28, 3) := by decide +kernel
theorem dX5_addCell_45 : decode cX5_addCell 45 = .ok (.getfield 101, 3) := by decide +kernel
theorem dX5_addCell_48 : decode cX5_addCell 48 = .ok (.aload_n 0, 1) := by decide +kernel
theorem dX5_addCell_49 : decode cX5_addCell 49 = .ok (.getfield 80, 3) := by decide +kernel
theorem dX5_addCell_52 : decode cX5_addCell 52 = .ok (.iconst (-1), 1) := by decide +kernel
theorem dX5_addCell_53 : decode cX5_addCell 53 = .ok (.iastore, 1) := by decide +kernel
theorem dX5_addCell_54 : decode cX5_addCell 54 = .ok (.aload_n 0, 1) := by decide +kernel
theorem dX5_addCell_55 : decode cX5_addCell 55 = .ok (.dup, 1) := by decide +kernel
theorem dX5_addCell_56 : decode cX5_addCell 56 = .ok (.getfield 80, 3) := by decide +kernel
theorem dX5_addCell_59 : decode cX5_addCell 59 = .ok (.iconst 1, 1) := by decide +kernel
theorem dX5_addCell_60 : decode cX5_addCell 60 = .ok (.iadd, 1) := by decide +kernel
theorem dX5_addCell_61 : decode cX5_addCell 61 = .ok (.putfield 80, 3) := by decide +kernel
theorem dX5_addCell_64 : decode cX5_addCell 64 = .ok (.aload_n 0, 1) := by decide +kernel
theorem dX5_addCell_65 : decode cX5_addCell 65 = .ok (.getfield 80, 3) := by decide +kernel
theorem dX5_addCell_68 : decode cX5_addCell 68 = .ok (.iconst 1, 1) := by decide +kernel
theorem dX5_addCell_69 : decode cX5_addCell 69 = .ok (.isub, 1) := by decide +kernel
theorem dX5_addCell_70 : decode cX5_addCell 70 = .ok (.ireturn, 1) := by decide +kernel
theorem dX5_addReading_0 : decode cX5_addReading 0 = .ok (.aload_n 0, 1) := by decide +kernel
theorem dX5_addReading_1 : decode cX5_addReading 1 = .ok (.getfield 36, 3) := by decide +kernel
theorem dX5_addReading_4 : decode cX5_addReading 4 = .ok (.aload_n 0, 1) := by decide +kernel
theorem dX5_addReading_5 : decode cX5_addReading 5 = .ok (.getfield 83, 3) := by decide +kernel
theorem dX5_addReading_8 : decode cX5_addReading 8 = .ok (.iload_n 1, 1) := by decide +kernel
theorem dX5_addReading_9 : decode cX5_addReading 9 = .ok (.iastore, 1) := by decide +kernel
theorem dX5_addReading_10 : decode cX5_addReading 10 = .ok (.aload_n 0, 1) := by decide +kernel
theorem dX5_addReading_11 : decode cX5_addReading 11 = .ok (.getfield 39, 3) := by decide +kernel
theorem dX5_addReading_14 : decode cX5_addReading 14 = .ok (.aload_n 0, 1) := by decide +kernel
theorem dX5_addReading_15 : decode cX5_addReading 15 = .ok (.getfield 83, 3) := by decide +kernel
theorem dX5_addReading_18 : decode cX5_addReading 18 = .ok (.iload_n 2, 1) := by decide +kernel
theorem dX5_addReading_19 : decode cX5_addReading 19 = .ok (.iastore, 1) := by decide +kernel
theorem dX5_addReading_20 : decode cX5_addReading 20 = .ok (.aload_n 0, 1) := by decide +kernel
theorem dX5_addReading_21 : decode cX5_addReading 21 = .ok (.getfield 42, 3) := by decide +kernel
theorem dX5_addReading_24 : decode cX5_addReading 24 = .ok (.aload_n 0, 1) := by decide +kernel
theorem dX5_addReading_25 : decode cX5_addReading 25 = .ok (.getfield 83, 3) := by decide +kernel
theorem dX5_addReading_28 : decode cX5_addReading 28 = .ok (.iload_n 3, 1) := by decide +kernel
theorem dX5_addReading_29 : decode cX5_addReading 29 = .ok (.iastore, 1) := by decide +kernel
theorem dX5_addReading_30 : decode cX5_addReading 30 = .ok (.aload_n 0, 1) := by decide +kernel
theorem dX5_addReading_31 : decode cX5_addReading 31 = .ok (.getfield 45, 3) := by decide +kernel
theorem dX5_addReading_34 : decode cX5_addReading 34 = .ok (.aload_n 0, 1) := by decide +kernel
theorem dX5_addReading_35 : decode cX5_addReading 35 = .ok (.getfield 83, 3) := by decide +kernel
theorem dX5_addReading_38 : decode cX5_addReading 38 = .ok (.iload 4, 2) := by decide +kernel
theorem dX5_addReading_40 : decode cX5_addReading 40 = .ok (.iastore, 1) := by decide +kernel
theorem dX5_addReading_41 : decode cX5_addReading 41 = .ok (.aload_n 0, 1) := by decide +kernel
theorem dX5_addReading_42 : decode cX5_addReading 42 = .ok (.dup, 1) := by decide +kernel
theorem dX5_addReading_43 : decode cX5_addReading 43 = .ok (.getfield 83, 3) := by decide +kernel
theorem dX5_addReading_46 : decode cX5_addReading 46 = .ok (.iconst 1, 1) := by decide +kernel
theorem dX5_addReading_47 : decode cX5_addReading 47 = .ok (.iadd, 1) := by decide +kernel
theorem dX5_addReading_48 : decode cX5_addReading 48 = .ok (.putfield 83, 3) := by decide +kernel
theorem dX5_addReading_51 : decode cX5_addReading 51 = .ok (.aload_n 0, 1) := by decide +kernel
theorem dX5_addReading_52 : decode cX5_addReading 52 = .ok (.getfield 83, 3) := by decide +kernel
theorem dX5_addReading_55 : decode cX5_addReading 55 = .ok (.iconst 1, 1) := by decide +kernel
theorem dX5_addReading_56 : decode cX5_addReading 56 = .ok (.isub, 1) := by decide +kernel
theorem dX5_addReading_57 : decode cX5_addReading 57 = .ok (.ireturn, 1) := by decide +kernel
theorem dX5_addRest_0 : decode cX5_addRest 0 = .ok (.aload_n 0, 1) := by decide +kernel
theorem dX5_addRest_1 : decode cX5_addRest 1 = .ok (.getfield 48, 3) := by decide +kernel
theorem dX5_addRest_4 : decode cX5_addRest 4 = .ok (.iload_n 1, 1) := by decide +kernel
theorem dX5_addRest_5 : decode cX5_addRest 5 = .ok (.iaload, 1) := by decide +kernel
theorem dX5_addRest_6 : decode cX5_addRest 6 = .ok (.ifCond .ne 20, 3) := by decide +kernel
theorem dX5_addRest_9 : decode cX5_addRest 9 = .ok (.aload_n 0, 1) := by decide +kernel
theorem dX5_addRest_10 : decode cX5_addRest 10 = .ok (.getfield 51, 3) := by decide +kernel
theorem dX5_addRest_13 : decode cX5_addRest 13 = .ok (.iload_n 1, 1) := by decide +kernel
theorem dX5_addRest_14 : decode cX5_addRest 14 = .ok (.iload_n 2, 1) := by decide +kernel
theorem dX5_addRest_15 : decode cX5_addRest 15 = .ok (.iastore, 1) := by decide +kernel
theorem dX5_addRest_16 : decode cX5_addRest 16 = .ok (.aload_n 0, 1) := by decide +kernel
theorem dX5_addRest_17 : decode cX5_addRest 17 = .ok (.getfield 54, 3) := by decide +kernel
theorem dX5_addRest_20 : decode cX5_addRest 20 = .ok (.iload_n 1, 1) := by decide +kernel
theorem dX5_addRest_21 : decode cX5_addRest 21 = .ok (.iload_n 3, 1) := by decide +kernel
theorem dX5_addRest_22 : decode cX5_addRest 22 = .ok (.iastore, 1) := by decide +kernel
theorem dX5_addRest_23 : decode cX5_addRest 23 = .ok (.goto 43, 3) := by decide +kernel
theorem dX5_addRest_26 : decode cX5_addRest 26 = .ok (.aload_n 0, 1) := by decide +kernel
theorem dX5_addRest_27 : decode cX5_addRest 27 = .ok (.getfield 60, 3) := by decide +kernel
theorem dX5_addRest_30 : decode cX5_addRest 30 = .ok (.iload_n 1, 1) := by decide +kernel
theorem dX5_addRest_31 : decode cX5_addRest 31 = .ok (.iaload, 1) := by decide +kernel
theorem dX5_addRest_32 : decode cX5_addRest 32 = .ok (.iload_n 3, 1) := by decide +kernel
theorem dX5_addRest_33 : decode cX5_addRest 33 = .ok (.isub, 1) := by decide +kernel
theorem dX5_addRest_34 : decode cX5_addRest 34 = .ok (.aload_n 0, 1) := by decide +kernel
theorem dX5_addRest_35 : decode cX5_addRest 35 = .ok (.getfield 12, 3) := by decide +kernel
theorem dX5_addRest_38 : decode cX5_addRest 38 = .ok (.getfield 104, 3) := by decide +kernel
theorem dX5_addRest_41 : decode cX5_addRest 41 = .ok (.bipush 7, 2) := by decide +kernel
theorem dX5_addRest_43 : decode cX5_addRest 43 = .ok (.iaload, 1) := by decide +kernel
theorem dX5_addRest_44 : decode cX5_addRest 44 = .ok (.iload_n 2, 1) := by decide +kernel
theorem dX5_addRest_45 : decode cX5_addRest 45 = .ok (.aload_n 0, 1) := by decide +kernel
theorem dX5_addRest_46 : decode cX5_addRest 46 = .ok (.getfield 57, 3) := by decide +kernel
theorem dX5_addRest_49 : decode cX5_addRest 49 = .ok (.iload_n 1, 1) := by decide +kernel
theorem dX5_addRest_50 : decode cX5_addRest 50 = .ok (.iaload, 1) := by decide +kernel
theorem dX5_addRest_51 : decode cX5_addRest 51 = .ok (.isub, 1) := by decide +kernel
theorem dX5_addRest_52 : decode cX5_addRest 52 = .ok (.imul, 1) := by decide +kernel
theorem dX5_addRest_53 : decode cX5_addRest 53 = .ok (.if_icmp .le 13, 3) := by decide +kernel
theorem dX5_addRest_56 : decode cX5_addRest 56 = .ok (.aload_n 0, 1) := by decide +kernel
theorem dX5_addRest_57 : decode cX5_addRest 57 = .ok (.getfield 63, 3) := by decide +kernel
theorem dX5_addRest_60 : decode cX5_addRest 60 = .ok (.iload_n 1, 1) := by decide +kernel
theorem dX5_addRest_61 : decode cX5_addRest 61 = .ok (.dup2, 1) := by decide +kernel
theorem dX5_addRest_62 : decode cX5_addRest 62 = .ok (.iaload, 1) := by decide +kernel
theorem dX5_addRest_63 : decode cX5_addRest 63 = .ok (.iconst 2, 1) := by decide +kernel
theorem dX5_addRest_64 : decode cX5_addRest 64 = .ok (.ior, 1) := by decide +kernel
theorem dX5_addRest_65 : decode cX5_addRest 65 = .ok (.iastore, 1) := by decide +kernel
theorem dX5_addRest_66 : decode cX5_addRest 66 = .ok (.iload 4, 2) := by decide +kernel
theorem dX5_addRest_68 : decode cX5_addRest 68 = .ok (.aload_n 0, 1) := by decide +kernel
theorem dX5_addRest_69 : decode cX5_addRest 69 = .ok (.getfield 12, 3) := by decide +kernel
theorem dX5_addRest_72 : decode cX5_addRest 72 = .ok (.getfield 104, 3) := by decide +kernel
theorem dX5_addRest_75 : decode cX5_addRest 75 = .ok (.bipush 8, 2) := by decide +kernel
theorem dX5_addRest_77 : decode cX5_addRest 77 = .ok (.iaload, 1) := by decide +kernel
theorem dX5_addRest_78 : decode cX5_addRest 78 = .ok (.if_icmp .lt 13, 3) := by decide +kernel
theorem dX5_addRest_81 : decode cX5_addRest 81 = .ok (.aload_n 0, 1) := by decide +kernel
theorem dX5_addRest_82 : decode cX5_addRest 82 = .ok (.getfield 63, 3) := by decide +kernel
theorem dX5_addRest_85 : decode cX5_addRest 85 = .ok (.iload_n 1, 1) := by decide +kernel
theorem dX5_addRest_86 : decode cX5_addRest 86 = .ok (.dup2, 1) := by decide +kernel
theorem dX5_addRest_87 : decode cX5_addRest 87 = .ok (.iaload, 1) := by decide +kernel
theorem dX5_addRest_88 : decode cX5_addRest 88 = .ok (.iconst 4, 1) := by decide +kernel
theorem dX5_addRest_89 : decode cX5_addRest 89 = .ok (.ior, 1) := by decide +kernel
theorem dX5_addRest_90 : decode cX5_addRest 90 = .ok (.iastore, 1) := by decide +kernel
theorem dX5_addRest_91 : decode cX5_addRest 91 = .ok (.aload_n 0, 1) := by decide +kernel
theorem dX5_addRest_92 : decode cX5_addRest 92 = .ok (.getfield 57, 3) := by decide +kernel
theorem dX5_addRest_95 : decode cX5_addRest 95 = .ok (.iload_n 1, 1) := by decide +kernel
theorem dX5_addRest_96 : decode cX5_addRest 96 = .ok (.iload_n 2, 1) := by decide +kernel
theorem dX5_addRest_97 : decode cX5_addRest 97 = .ok (.iastore, 1) := by decide +kernel
theorem dX5_addRest_98 : decode cX5_addRest 98 = .ok (.aload_n 0, 1) := by decide +kernel
theorem dX5_addRest_99 : decode cX5_addRest 99 = .ok (.getfield 60, 3) := by decide +kernel
theorem dX5_addRest_102 : decode cX5_addRest 102 = .ok (.iload_n 1, 1) := by decide +kernel
theorem dX5_addRest_103 : decode cX5_addRest 103 = .ok (.iload_n 3, 1) := by decide +kernel
theorem dX5_addRest_104 : decode cX5_addRest 104 = .ok (.iastore, 1) := by decide +kernel
theorem dX5_addRest_105 : decode cX5_addRest 105 = .ok (.aload_n 0, 1) := by decide +kernel
theorem dX5_addRest_106 : decode cX5_addRest 106 = .ok (.getfield 48, 3) := by decide +kernel
theorem dX5_addRest_109 : decode cX5_addRest 109 = .ok (.iload_n 1, 1) := by decide +kernel
theorem dX5_addRest_110 : decode cX5_addRest 110 = .ok (.dup2, 1) := by decide +kernel
theorem dX5_addRest_111 : decode cX5_addRest 111 = .ok (.iaload, 1) := by decide +kernel
theorem dX5_addRest_112 : decode cX5_addRest 112 = .ok (.iconst 1, 1) := by decide +kernel
theorem dX5_addRest_113 : decode cX5_addRest 113 = .ok (.iadd, 1) := by decide +kernel
theorem dX5_addRest_114 : decode cX5_addRest 114 = .ok (.iastore, 1) := by decide +kernel
theorem dX5_addRest_115 : decode cX5_addRest 115 = .ok (.aload_n 0, 1) := by decide +kernel
theorem dX5_addRest_116 : decode cX5_addRest 116 = .ok (.dup, 1) := by decide +kernel
theorem dX5_addRest_117 : decode cX5_addRest 117 = .ok (.getfield 86, 3) := by decide +kernel
theorem dX5_addRest_120 : decode cX5_addRest 120 = .ok (.iconst 1, 1) := by decide +kernel
theorem dX5_addRest_121 : decode cX5_addRest 121 = .ok (.iadd, 1) := by decide +kernel
theorem dX5_addRest_122 : decode cX5_addRest 122 = .ok (.putfield 86, 3) := by decide +kernel
theorem dX5_addRest_125 : decode cX5_addRest 125 = .ok (.aload_n 0, 1) := by decide +kernel
theorem dX5_addRest_126 : decode cX5_addRest 126 = .ok (.getfield 86, 3) := by decide +kernel
theorem dX5_addRest_129 : decode cX5_addRest 129 = .ok (.iconst 1, 1) := by decide +kernel
theorem dX5_addRest_130 : decode cX5_addRest 130 = .ok (.isub, 1) := by decide +kernel
theorem dX5_addRest_131 : decode cX5_addRest 131 = .ok (.ireturn, 1) := by decide +kernel
theorem dX5_fallenBy_0 : decode cX5_fallenBy 0 = .ok (.aload_n 0, 1) := by decide +kernel
theorem dX5_fallenBy_1 : decode cX5_fallenBy 1 = .ok (.getfield 54, 3) := by decide +kernel
theorem dX5_fallenBy_4 : decode cX5_fallenBy 4 = .ok (.iload_n 1, 1) := by decide +kernel
theorem dX5_fallenBy_5 : decode cX5_fallenBy 5 = .ok (.iaload, 1) := by decide +kernel
theorem dX5_fallenBy_6 : decode cX5_fallenBy 6 = .ok (.aload_n 0, 1) := by decide +kernel
theorem dX5_fallenBy_7 : decode cX5_fallenBy 7 = .ok (.getfield 60, 3) := by decide +kernel
theorem dX5_fallenBy_10 : decode cX5_fallenBy 10 = .ok (.iload_n 1, 1) := by decide +kernel
theorem dX5_fallenBy_11 : decode cX5_fallenBy 11 = .ok (.iaload, 1) := by decide +kernel
theorem dX5_fallenBy_12 : decode cX5_fallenBy 12 = .ok (.isub, 1) := by decide +kernel
theorem dX5_fallenBy_13 : decode cX5_fallenBy 13 = .ok (.ireturn, 1) := by decide +kernel
theorem dX5_daysBetween_0 : decode cX5_daysBetween 0 = .ok (.aload_n 0, 1) := by decide +kernel
theorem dX5_daysBetween_1 : decode cX5_daysBetween 1 = .ok (.getfield 57, 3) := by decide +kernel
theorem dX5_daysBetween_4 : decode cX5_daysBetween 4 = .ok (.iload_n 1, 1) := by decide +kernel
theorem dX5_daysBetween_5 : decode cX5_daysBetween 5 = .ok (.iaload, 1) := by decide +kernel
theorem dX5_daysBetween_6 : decode cX5_daysBetween 6 = .ok (.aload_n 0, 1) := by decide +kernel
theorem dX5_daysBetween_7 : decode cX5_daysBetween 7 = .ok (.getfield 51, 3) := by decide +kernel
theorem dX5_daysBetween_10 : decode cX5_daysBetween 10 = .ok (.iload_n 1, 1) := by decide +kernel
theorem dX5_daysBetween_11 : decode cX5_daysBetween 11 = .ok (.iaload, 1) := by decide +kernel
theorem dX5_daysBetween_12 : decode cX5_daysBetween 12 = .ok (.isub, 1) := by decide +kernel
theorem dX5_daysBetween_13 : decode cX5_daysBetween 13 = .ok (.ireturn, 1) := by decide +kernel
theorem dX5_liesOf_0 : decode cX5_liesOf 0 = .ok (.aload_n 0, 1) := by decide +kernel
theorem dX5_liesOf_1 : decode cX5_liesOf 1 = .ok (.getfield 48, 3) := by decide +kernel
theorem dX5_liesOf_4 : decode cX5_liesOf 4 = .ok (.iload_n 1, 1) := by decide +kernel
theorem dX5_liesOf_5 : decode cX5_liesOf 5 = .ok (.iaload, 1) := by decide +kernel
theorem dX5_liesOf_6 : decode cX5_liesOf 6 = .ok (.iconst 1, 1) := by decide +kernel
theorem dX5_liesOf_7 : decode cX5_liesOf 7 = .ok (.if_icmp .le 31, 3) := by decide +kernel
theorem dX5_liesOf_10 : decode cX5_liesOf 10 = .ok (.aload_n 0, 1) := by decide +kernel
theorem dX5_liesOf_11 : decode cX5_liesOf 11 = .ok (.iload_n 1, 1) := by decide +kernel
theorem dX5_liesOf_12 : decode cX5_liesOf 12 = .ok (.invokevirtual 107, 3) := by decide +kernel
theorem dX5_liesOf_15 : decode cX5_liesOf 15 = .ok (.aload_n 0, 1) := by decide +kernel
theorem dX5_liesOf_16 : decode cX5_liesOf 16 = .ok (.getfield 12, 3) := by decide +kernel
theorem dX5_liesOf_19 : decode cX5_liesOf 19 = .ok (.getfield 104, 3) := by decide +kernel
theorem dX5_liesOf_22 : decode cX5_liesOf 22 = .ok (.bipush 6, 2) := by decide +kernel
theorem dX5_liesOf_24 : decode cX5_liesOf 24 = .ok (.iaload, 1) := by decide +kernel
theorem dX5_liesOf_25 : decode cX5_liesOf 25 = .ok (.aload_n 0, 1) := by decide +kernel
theorem dX5_liesOf_26 : decode cX5_liesOf 26 = .ok (.iload_n 1, 1) := by decide +kernel
theorem dX5_liesOf_27 : decode cX5_liesOf 27 = .ok (.invokevirtual 111, 3) := by decide +kernel
theorem dX5_liesOf_30 : decode cX5_liesOf 30 = .ok (.imul, 1) := by decide +kernel
theorem dX5_liesOf_31 : decode cX5_liesOf 31 = .ok (.if_icmp .le 7, 3) := by decide +kernel
theorem dX5_liesOf_34 : decode cX5_liesOf 34 = .ok (.iconst 1, 1) := by decide +kernel
theorem dX5_liesOf_35 : decode cX5_liesOf 35 = .ok (.goto 4, 3) := by decide +kernel
theorem dX5_liesOf_38 : decode cX5_liesOf 38 = .ok (.iconst 0, 1) := by decide +kernel
theorem dX5_liesOf_39 : decode cX5_liesOf 39 = .ok (.istore_n 2, 1) := by decide +kernel
theorem dX5_liesOf_40 : decode cX5_liesOf 40 = .ok (.aload_n 0, 1) := by decide +kernel
theorem dX5_liesOf_41 : decode cX5_liesOf 41 = .ok (.getfield 63, 3) := by decide +kernel
theorem dX5_liesOf_44 : decode cX5_liesOf 44 = .ok (.iload_n 1, 1) := by decide +kernel
theorem dX5_liesOf_45 : decode cX5_liesOf 45 = .ok (.iaload, 1) := by decide +kernel
theorem dX5_liesOf_46 : decode cX5_liesOf 46 = .ok (.iload_n 2, 1) := by decide +kernel
theorem dX5_liesOf_47 : decode cX5_liesOf 47 = .ok (.ifCond .eq 7, 3) := by decide +kernel
theorem dX5_liesOf_50 : decode cX5_liesOf 50 = .ok (.iconst 1, 1) := by decide +kernel
theorem dX5_liesOf_51 : decode cX5_liesOf 51 = .ok (.goto 4, 3) := by decide +kernel
theorem dX5_liesOf_54 : decode cX5_liesOf 54 = .ok (.iconst 0, 1) := by decide +kernel
theorem dX5_liesOf_55 : decode cX5_liesOf 55 = .ok (.ior, 1) := by decide +kernel
theorem dX5_liesOf_56 : decode cX5_liesOf 56 = .ok (.ireturn, 1) := by decide +kernel
