theorem dX12_thrown_0 : decode cX12_thrown 0 = .ok (.aload_n 0, 1) := by decide +kernel
theorem dX12_thrown_1 : decode cX12_thrown 1 = .ok (.getfield 1, 3) := by decide +kernel
theorem dX12_thrown_4 : decode cX12_thrown 4 = .ok (.ireturn, 1) := by decide +kernel
theorem dX12_throwsIf_0 : decode cX12_throwsIf 0 = .ok (.aload_n 0, 1) := by decide +kernel
theorem dX12_throwsIf_1 : decode cX12_throwsIf 1 = .ok (.iload_n 1, 1) := by decide +kernel
theorem dX12_throwsIf_2 : decode cX12_throwsIf 2 = .ok (.ifCond .eq 7, 3) := by decide +kernel
theorem dX12_throwsIf_5 : decode cX12_throwsIf 5 = .ok (.iconst 1, 1) := by decide +kernel
theorem dX12_throwsIf_6 : decode cX12_throwsIf 6 = .ok (.goto 4, 3) := by decide +kernel
theorem dX12_throwsIf_9 : decode cX12_throwsIf 9 = .ok (.iconst 0, 1) := by decide +kernel
theorem dX12_throwsIf_10 : decode cX12_throwsIf 10 = .ok (.putfield 1, 3) := by decide +kernel
theorem dX12_throwsIf_13 : decode cX12_throwsIf 13 = .ok (.iload_n 1, 1) := by decide +kernel
theorem dX12_throwsIf_14 : decode cX12_throwsIf 14 = .ok (.ireturn, 1) := by decide +kernel
theorem dX12_feed_0 : decode cX12_feed 0 = .ok (.aload_n 0, 1) := by decide +kernel
theorem dX12_feed_1 : decode cX12_feed 1 = .ok (.iconst 0, 1) := by decide +kernel
theorem dX12_feed_2 : decode cX12_feed 2 = .ok (.putfield 1, 3) := by decide +kernel
theorem dX12_feed_5 : decode cX12_feed 5 = .ok (.aload_n 0, 1) := by decide +kernel
theorem dX12_feed_6 : decode cX12_feed 6 = .ok (.getfield 7, 3) := by decide +kernel
theorem dX12_feed_9 : decode cX12_feed 9 = .ok (.bipush 20, 2) := by decide +kernel
theorem dX12_feed_11 : decode cX12_feed 11 = .ok (.iadd, 1) := by decide +kernel
theorem dX12_feed_12 : decode cX12_feed 12 = .ok (.sipush 540, 3) := by decide +kernel
theorem dX12_feed_15 : decode cX12_feed 15 = .ok (.if_icmp .le 5, 3) := by decide +kernel
theorem dX12_feed_18 : decode cX12_feed 18 = .ok (.iconst (-1), 1) := by decide +kernel
theorem dX12_feed_19 : decode cX12_feed 19 = .ok (.ireturn, 1) := by decide +kernel
theorem dX12_feed_20 : decode cX12_feed 20 = .ok (.aload_n 0, 1) := by decide +kernel
theorem dX12_feed_21 : decode cX12_feed 21 = .ok (.iload_n 1, 1) := by decide +kernel
theorem dX12_feed_22 : decode cX12_feed 22 = .ok (.invokevirtual 10, 3) := by decide +kernel
theorem dX12_feed_25 : decode cX12_feed 25 = .ok (.aload_n 0, 1) := by decide +kernel
theorem dX12_feed_26 : decode cX12_feed 26 = .ok (.iload_n 2, 1) := by decide +kernel
theorem dX12_feed_27 : decode cX12_feed 27 = .ok (.invokevirtual 10, 3) := by decide +kernel
theorem dX12_feed_30 : decode cX12_feed 30 = .ok (.aload_n 0, 1) := by decide +kernel
theorem dX12_feed_31 : decode cX12_feed 31 = .ok (.iload_n 3, 1) := by decide +kernel
theorem dX12_feed_32 : decode cX12_feed 32 = .ok (.invokevirtual 10, 3) := by decide +kernel
theorem dX12_feed_35 : decode cX12_feed 35 = .ok (.aload_n 0, 1) := by decide +kernel
theorem dX12_feed_36 : decode cX12_feed 36 = .ok (.iload 4, 2) := by decide +kernel
theorem dX12_feed_38 : decode cX12_feed 38 = .ok (.invokevirtual 10, 3) := by decide +kernel
theorem dX12_feed_41 : decode cX12_feed 41 = .ok (.aload_n 0, 1) := by decide +kernel
theorem dX12_feed_42 : decode cX12_feed 42 = .ok (.iload 5, 2) := by decide +kernel
theorem dX12_feed_44 : decode cX12_feed 44 = .ok (.invokevirtual 10, 3) := by decide +kernel
theorem dX12_feed_47 : decode cX12_feed 47 = .ok (.aload_n 0, 1) := by decide +kernel
theorem dX12_feed_48 : decode cX12_feed 48 = .ok (.getfield 7, 3) := by decide +kernel
theorem dX12_feed_51 : decode cX12_feed 51 = .ok (.ireturn, 1) := by decide +kernel
theorem dX12_four_0 : decode cX12_four 0 = .ok (.bipush 24, 2) := by decide +kernel
theorem dX12_four_2 : decode cX12_four 2 = .ok (.istore_n 2, 1) := by decide +kernel
theorem dX12_four_3 : decode cX12_four 3 = .ok (.iload_n 2, 1) := by decide +kernel
theorem dX12_four_4 : decode cX12_four 4 = .ok (.ifCond .lt 32, 3) := by decide +kernel
theorem dX12_four_7 : decode cX12_four 7 = .ok (.aload_n 0, 1) := by decide +kernel
theorem dX12_four_8 : decode cX12_four 8 = .ok (.getfield 14, 3) := by decide +kernel
theorem dX12_four_11 : decode cX12_four 11 = .ok (.aload_n 0, 1) := by decide +kernel
theorem dX12_four_12 : decode cX12_four 12 = .ok (.getfield 7, 3) := by decide +kernel
theorem dX12_four_15 : decode cX12_four 15 = .ok (.iload_n 1, 1) := by decide +kernel
theorem dX12_four_16 : decode cX12_four 16 = .ok (.iload_n 2, 1) := by decide +kernel
theorem dX12_four_17 : decode cX12_four 17 = .ok (.ishr, 1) := by decide +kernel
theorem dX12_four_18 : decode cX12_four 18 = .ok (.i2b, 1) := by decide +kernel
theorem dX12_four_19 : decode cX12_four 19 = .ok (.bastore, 1) := by decide +kernel
theorem dX12_four_20 : decode cX12_four 20 = .ok (.aload_n 0, 1) := by decide +kernel
theorem dX12_four_21 : decode cX12_four 21 = .ok (.dup, 1) := by decide +kernel
theorem dX12_four_22 : decode cX12_four 22 = .ok (.getfield 7, 3) := by decide +kernel
theorem dX12_four_25 : decode cX12_four 25 = .ok (.iconst 1, 1) := by decide +kernel
theorem dX12_four_26 : decode cX12_four 26 = .ok (.iadd, 1) := by decide +kernel
theorem dX12_four_27 : decode cX12_four 27 = .ok (.putfield 7, 3) := by decide +kernel
theorem dX12_four_30 : decode cX12_four 30 = .ok (.iinc 2 (-8), 3) := by decide +kernel
theorem dX12_four_33 : decode cX12_four 33 = .ok (.goto (-30), 3) := by decide +kernel
theorem dX12_four_36 : decode cX12_four 36 = .ok (.return_, 1) := by decide +kernel
theorem dX12_end_0 : decode cX12_end 0 = .ok (.aload_n 0, 1) := by decide +kernel
theorem dX12_end_1 : decode cX12_end 1 = .ok (.iconst 0, 1) := by decide +kernel
theorem dX12_end_2 : decode cX12_end 2 = .ok (.putfield 1, 3) := by decide +kernel
theorem dX12_end_5 : decode cX12_end 5 = .ok (.iload_n 1, 1) := by decide +kernel
theorem dX12_end_6 : decode cX12_end 6 = .ok (.ifCond .lt 11, 3) := by decide +kernel
theorem dX12_end_9 : decode cX12_end 9 = .ok (.iload_n 1, 1) := by decide +kernel
theorem dX12_end_10 : decode cX12_end 10 = .ok (.aload_n 0, 1) := by decide +kernel
theorem dX12_end_11 : decode cX12_end 11 = .ok (.getfield 7, 3) := by decide +kernel
theorem dX12_end_14 : decode cX12_end 14 = .ok (.if_icmp .le 5, 3) := by decide +kernel
theorem dX12_end_17 : decode cX12_end 17 = .ok (.iconst 0, 1) := by decide +kernel
theorem dX12_end_18 : decode cX12_end 18 = .ok (.ireturn, 1) := by decide +kernel
theorem dX12_end_19 : decode cX12_end 19 = .ok (.aload_n 0, 1) := by decide +kernel
theorem dX12_end_20 : decode cX12_end 20 = .ok (.iload_n 1, 1) := by decide +kernel
theorem dX12_end_21 : decode cX12_end 21 = .ok (.putfield 7, 3) := by decide +kernel
theorem dX12_end_24 : decode cX12_end 24 = .ok (.iconst 1, 1) := by decide +kernel
theorem dX12_end_25 : decode cX12_end 25 = .ok (.ireturn, 1) := by decide +kernel
theorem dX12_taken_0 : decode cX12_taken 0 = .ok (.aload_n 0, 1) := by decide +kernel
theorem dX12_taken_1 : decode cX12_taken 1 = .ok (.aload_n 0, 1) := by decide +kernel
theorem dX12_taken_2 : decode cX12_taken 2 = .ok (.getfield 7, 3) := by decide +kernel
theorem dX12_taken_5 : decode cX12_taken 5 = .ok (.putfield 18, 3) := by decide +kernel
theorem dX12_taken_8 : decode cX12_taken 8 = .ok (.aload_n 0, 1) := by decide +kernel
theorem dX12_taken_9 : decode cX12_taken 9 = .ok (.iconst 0, 1) := by decide +kernel
theorem dX12_taken_10 : decode cX12_taken 10 = .ok (.putfield 7, 3) := by decide +kernel
theorem dX12_taken_13 : decode cX12_taken 13 = .ok (.aload_n 0, 1) := by decide +kernel
theorem dX12_taken_14 : decode cX12_taken 14 = .ok (.iconst 0, 1) := by decide +kernel
theorem dX12_taken_15 : decode cX12_taken 15 = .ok (.putfield 21, 3) := by decide +kernel
theorem dX12_taken_18 : decode cX12_taken 18 = .ok (.aload_n 0, 1) := by decide +kernel
theorem dX12_taken_19 : decode cX12_taken 19 = .ok (.iload_n 1, 1) := by decide +kernel
theorem dX12_taken_20 : decode cX12_taken 20 = .ok (.putfield 24, 3) := by decide +kernel
theorem dX12_taken_23 : decode cX12_taken 23 = .ok (.return_, 1) := by decide +kernel
theorem dX12_isIn_0 : decode cX12_isIn 0 = .ok (.iload_n 0, 1) := by decide +kernel
theorem dX12_isIn_1 : decode cX12_isIn 1 = .ok (.iload_n 1, 1) := by decide +kernel
theorem dX12_isIn_2 : decode cX12_isIn 2 = .ok (.if_icmp .lt 12, 3) := by decide +kernel
theorem dX12_isIn_5 : decode cX12_isIn 5 = .ok (.iload_n 0, 1) := by decide +kernel
theorem dX12_isIn_6 : decode cX12_isIn 6 = .ok (.iload_n 2, 1) := by decide +kernel
theorem dX12_isIn_7 : decode cX12_isIn 7 = .ok (.if_icmp .gt 7, 3) := by decide +kernel
theorem dX12_isIn_10 : decode cX12_isIn 10 = .ok (.iconst 1, 1) := by decide +kernel
theorem dX12_isIn_11 : decode cX12_isIn 11 = .ok (.goto 4, 3) := by decide +kernel
theorem dX12_isIn_14 : decode cX12_isIn 14 = .ok (.iconst 0, 1) := by decide +kernel
theorem dX12_isIn_15 : decode cX12_isIn 15 = .ok (.ireturn, 1) := by decide +kernel
theorem dX12_plain_0 : decode cX12_plain 0 = .ok (.iload_n 0, 1) := by decide +kernel
theorem dX12_plain_1 : decode cX12_plain 1 = .ok (.ifCond .ge 8, 3) := by decide +kernel
theorem dX12_plain_4 : decode cX12_plain 4 = .ok (.iload_n 0, 1) := by decide +kernel
theorem dX12_plain_5 : decode cX12_plain 5 = .ok (.ineg, 1) := by decide +kernel
theorem dX12_plain_6 : decode cX12_plain 6 = .ok (.goto 4, 3) := by decide +kernel
theorem dX12_plain_9 : decode cX12_plain 9 = .ok (.iload_n 0, 1) := by decide +kernel
theorem dX12_plain_10 : decode cX12_plain 10 = .ok (.ireturn, 1) := by decide +kernel
theorem dX12_octet_0 : decode cX12_octet 0 = .ok (.aload_n 0, 1) := by decide +kernel
theorem dX12_octet_1 : decode cX12_octet 1 = .ok (.getfield 14, 3) := by decide +kernel
theorem dX12_octet_4 : decode cX12_octet 4 = .ok (.iload_n 1, 1) := by decide +kernel
theorem dX12_octet_5 : decode cX12_octet 5 = .ok (.baload, 1) := by decide +kernel
theorem dX12_octet_6 : decode cX12_octet 6 = .ok (.sipush 255, 3) := by decide +kernel
theorem dX12_octet_9 : decode cX12_octet 9 = .ok (.iand, 1) := by decide +kernel
theorem dX12_octet_10 : decode cX12_octet 10 = .ok (.ireturn, 1) := by decide +kernel
theorem dX12_init_0 : decode cX12_init 0 = .ok (.aload_n 0, 1) := by decide +kernel
theorem dX12_init_1 : decode cX12_init 1 = .ok (.invokespecial 27, 3) := by decide +kernel
theorem dX12_init_4 : decode cX12_init 4 = .ok (.aload_n 0, 1) := by decide +kernel
theorem dX12_init_5 : decode cX12_init 5 = .ok (.sipush 540, 3) := by decide +kernel
theorem dX12_init_8 : decode cX12_init 8 = .ok (.newarray .byte, 2) := by decide +kernel
theorem dX12_init_10 : decode cX12_init 10 = .ok (.putfield 14, 3) := by decide +kernel
theorem dX12_init_13 : decode cX12_init 13 = .ok (.aload_n 0, 1) := by decide +kernel
theorem dX12_init_14 : decode cX12_init 14 = .ok (.sipush 2819, 3) := by decide +kernel
theorem dX12_init_17 : decode cX12_init 17 = .ok (.newarray .int, 2) := by decide +kernel
theorem dX12_init_19 : decode cX12_init 19 = .ok (.putfield 33, 3) := by decide +kernel
theorem dX12_init_22 : decode cX12_init 22 = .ok (.aload_n 0, 1) := by decide +kernel
theorem dX12_init_23 : decode cX12_init 23 = .ok (.bipush 11, 2) := by decide +kernel
theorem dX12_init_25 : decode cX12_init 25 = .ok (.newarray .int, 2) := by decide +kernel
theorem dX12_init_27 : decode cX12_init 27 = .ok (.putfield 37, 3) := by decide +kernel
theorem dX12_init_30 : decode cX12_init 30 = .ok (.aload_n 0, 1) := by decide +kernel
theorem dX12_init_31 : decode cX12_init 31 = .ok (.bipush 28, 2) := by decide +kernel
theorem dX12_init_33 : decode cX12_init 33 = .ok (.newarray .long, 2) := by decide +kernel
theorem dX12_init_35 : decode cX12_init 35 = .ok (.putfield 40, 3) := by decide +kernel
theorem dX12_init_38 : decode cX12_init 38 = .ok (.aload_n 0, 1) := by decide +kernel
theorem dX12_init_39 : decode cX12_init 39 = .ok (.bipush 23, 2) := by decide +kernel
theorem dX12_init_41 : decode cX12_init 41 = .ok (.newarray .long, 2) := by decide +kernel
theorem dX12_init_43 : decode cX12_init 43 = .ok (.putfield 44, 3) := by decide +kernel
theorem dX12_init_46 : decode cX12_init 46 = .ok (.aload_n 0, 1) := by decide +kernel
theorem dX12_init_47 : decode cX12_init 47 = .ok (.bipush 6, 2) := by decide +kernel
theorem dX12_init_49 : decode cX12_init 49 = .ok (.newarray .boolean, 2) := by decide +kernel
theorem dX12_init_51 : decode cX12_init 51 = .ok (.putfield 47, 3) := by decide +kernel
theorem dX12_init_54 : decode cX12_init 54 = .ok (.aload_n 0, 1) := by decide +kernel
theorem dX12_init_55 : decode cX12_init 55 = .ok (.bipush 6, 2) := by decide +kernel
theorem dX12_init_57 : decode cX12_init 57 = .ok (.newarray .int, 2) := by decide +kernel
theorem dX12_init_59 : decode cX12_init 59 = .ok (.putfield 51, 3) := by decide +kernel
theorem dX12_init_62 : decode cX12_init 62 = .ok (.aload_n 0, 1) := by decide +kernel
theorem dX12_init_63 : decode cX12_init 63 = .ok (.bipush 6, 2) := by decide +kernel
theorem dX12_init_65 : decode cX12_init 65 = .ok (.newarray .int, 2) := by decide +kernel
theorem dX12_init_67 : decode cX12_init 67 = .ok (.putfield 54, 3) := by decide +kernel
theorem dX12_init_70 : decode cX12_init 70 = .ok (.aload_n 0, 1) := by decide +kernel
theorem dX12_init_71 : decode cX12_init 71 = .ok (.bipush 60, 2) := by decide +kernel
theorem dX12_init_73 : decode cX12_init 73 = .ok (.newarray .int, 2) := by decide +kernel
theorem dX12_init_75 : decode cX12_init 75 = .ok (.putfield 57, 3) := by decide +kernel
theorem dX12_init_78 : decode cX12_init 78 = .ok (.aload_n 0, 1) := by decide +kernel
theorem dX12_init_79 : decode cX12_init 79 = .ok (.bipush 60, 2) := by decide +kernel
theorem dX12_init_81 : decode cX12_init 81 = .ok (.newarray .int, 2) := by decide +kernel
theorem dX12_init_83 : decode cX12_init 83 = .ok (.putfield 60, 3) := by decide +kernel
theorem dX12_init_86 : decode cX12_init 86 = .ok (.aload_n 0, 1) := by decide +kernel
theorem dX12_init_87 : decode cX12_init 87 = .ok (.bipush 60, 2) := by decide +kernel
theorem dX12_init_89 : decode cX12_init 89 = .ok (.newarray .int, 2) := by decide +kernel
theorem dX12_init_91 : decode cX12_init 91 = .ok (.putfield 63, 3) := by decide +kernel
theorem dX12_init_94 : decode cX12_init 94 = .ok (.aload_n 0, 1) := by decide +kernel
theorem dX12_init_95 : decode cX12_init 95 = .ok (.bipush 60, 2) := by decide +kernel
theorem dX12_init_97 : decode cX12_init 97 = .ok (.newarray .int, 2) := by decide +kernel
theorem dX12_init_99 : decode cX12_init 99 = .ok (.putfield 66, 3) := by decide +kernel
theorem dX12_init_102 : decode cX12_init 102 = .ok (.aload_n 0, 1) := by decide +kernel
theorem dX12_init_103 : decode cX12_init 103 = .ok (.bipush 60, 2) := by decide +kernel
theorem dX12_init_105 : decode cX12_init 105 = .ok (.newarray .int, 2) := by decide +kernel
theorem dX12_init_107 : decode cX12_init 107 = .ok (.putfield 69, 3) := by decide +kernel
theorem dX12_init_110 : decode cX12_init 110 = .ok (.aload_n 0, 1) := by decide +kernel
theorem dX12_init_111 : decode cX12_init 111 = .ok (.sipush 192, 3) := by decide +kernel
theorem dX12_init_114 : decode cX12_init 114 = .ok (.newarray .int, 2) := by decide +kernel
theorem dX12_init_116 : decode cX12_init 116 = .ok (.putfield 72, 3) := by decide +kernel
theorem dX12_init_119 : decode cX12_init 119 = .ok (.aload_n 0, 1) := by decide +kernel
theorem dX12_init_120 : decode cX12_init 120 = .ok (.bipush 30, 2) := by decide +kernel
theorem dX12_init_122 : decode cX12_init 122 = .ok (.newarray .int, 2) := by decide +kernel
theorem dX12_init_124 : decode cX12_init 124 = .ok (.putfield 75, 3) := by decide +kernel
theorem dX12_init_127 : decode cX12_init 127 = .ok (.aload_n 0, 1) := by decide +kernel
theorem dX12_init_128 : decode cX12_init 128 = .ok (.bipush 64, 2) := by decide +kernel
theorem dX12_init_130 : decode cX12_init 130 = .ok (.newarray .boolean, 2) := by decide +kernel
theorem dX12_init_132 : decode cX12_init 132 = .ok (.putfield 78, 3) := by decide +kernel
theorem dX12_init_135 : decode cX12_init 135 = .ok (.aload_n 0, 1) := by decide +kernel
theorem dX12_init_136 : decode cX12_init 136 = .ok (.bipush 60, 2) := by decide +kernel
theorem dX12_init_138 : decode cX12_init 138 = .ok (.newarray .int, 2) := by decide +kernel
theorem dX12_init_140 : decode cX12_init 140 = .ok (.putfield 81, 3) := by decide +kernel
theorem dX12_init_143 : decode cX12_init 143 = .ok (.aload_n 0, 1) := by decide +kernel
theorem dX12_init_144 : decode cX12_init 144 = .ok (.bipush 60, 2) := by decide +kernel
theorem dX12_init_146 : decode cX12_init 146 = .ok (.newarray .int, 2) := by decide +kernel
theorem dX12_init_148 : decode cX12_init 148 = .ok (.putfield 84, 3) := by decide +kernel
theorem dX12_init_151 : decode cX12_init 151 = .ok (.aload_n 0, 1) := by decide +kernel
theorem dX12_init_152 : decode cX12_init 152 = .ok (.bipush 60, 2) := by decide +kernel
theorem dX12_init_154 : decode cX12_init 154 = .ok (.newarray .int, 2) := by decide +kernel
theorem dX12_init_156 : decode cX12_init 156 = .ok (.putfield 87, 3) := by decide +kernel
theorem dX12_init_159 : decode cX12_init 159 = .ok (.aload_n 0, 1) := by decide +kernel
theorem dX12_init_160 : decode cX12_init 160 = .ok (.bipush 60, 2) := by decide +kernel
theorem dX12_init_162 : decode cX12_init 162 = .ok (.newarray .int, 2) := by decide +kernel
theorem dX12_init_164 : decode cX12_init 164 = .ok (.putfield 90, 3) := by decide +kernel
theorem dX12_init_167 : decode cX12_init 167 = .ok (.aload_n 0, 1) := by decide +kernel
theorem dX12_init_168 : decode cX12_init 168 = .ok (.bipush 60, 2) := by decide +kernel
theorem dX12_init_170 : decode cX12_init 170 = .ok (.newarray .int, 2) := by decide +kernel
theorem dX12_init_172 : decode cX12_init 172 = .ok (.putfield 93, 3) := by decide +kernel
theorem dX12_init_175 : decode cX12_init 175 = .ok (.aload_n 0, 1) := by decide +kernel
theorem dX12_init_176 : decode cX12_init 176 = .ok (.bipush 60, 2) := by decide +kernel
theorem dX12_init_178 : decode cX12_init 178 = .ok (.newarray .int, 2) := by decide +kernel
theorem dX12_init_180 : decode cX12_init 180 = .ok (.putfield 96, 3) := by decide +kernel
theorem dX12_init_183 : decode cX12_init 183 = .ok (.aload_n 0, 1) := by decide +kernel
theorem dX12_init_184 : decode cX12_init 184 = .ok (.bipush 60, 2) := by decide +kernel
theorem dX12_init_186 : decode cX12_init 186 = .ok (.newarray .int, 2) := by decide +kernel
theorem dX12_init_188 : decode cX12_init 188 = .ok (.putfield 99, 3) := by decide +kernel
theorem dX12_init_191 : decode cX12_init 191 = .ok (.aload_n 0, 1) := by decide +kernel
theorem dX12_init_192 : decode cX12_init 192 = .ok (.bipush 12, 2) := by decide +kernel
theorem dX12_init_194 : decode cX12_init 194 = .ok (.newarray .int, 2) := by decide +kernel
theorem dX12_init_196 : decode cX12_init 196 = .ok (.putfield 102, 3) := by decide +kernel
theorem dX12_init_199 : decode cX12_init 199 = .ok (.aload_n 0, 1) := by decide +kernel
theorem dX12_init_200 : decode cX12_init 200 = .ok (.bipush 40, 2) := by decide +kernel
theorem dX12_init_202 : decode cX12_init 202 = .ok (.newarray .int, 2) := by decide +kernel
theorem dX12_init_204 : decode cX12_init 204 = .ok (.putfield 105, 3) := by decide +kernel
theorem dX12_init_207 : decode cX12_init 207 = .ok (.aload_n 0, 1) := by decide +kernel
theorem dX12_init_208 : decode cX12_init 208 = .ok (.bipush 60, 2) := by decide +kernel
theorem dX12_init_210 : decode cX12_init 210 = .ok (.newarray .int, 2) := by decide +kernel
theorem dX12_init_212 : decode cX12_init 212 = .ok (.putfield 108, 3) := by decide +kernel
theorem dX12_init_215 : decode cX12_init 215 = .ok (.aload_n 0, 1) := by decide +kernel
theorem dX12_init_216 : decode cX12_init 216 = .ok (.bipush 9, 2) := by decide +kernel
theorem dX12_init_218 : decode cX12_init 218 = .ok (.newarray .int, 2) := by decide +kernel
theorem dX12_init_220 : decode cX12_init 220 = .ok (.putfield 111, 3) := by decide +kernel
theorem dX12_init_223 : decode cX12_init 223 = .ok (.aload_n 0, 1) := by decide +kernel
theorem dX12_init_224 : decode cX12_init 224 = .ok (.iconst (-1), 1) := by decide +kernel
theorem dX12_init_225 : decode cX12_init 225 = .ok (.putfield 114, 3) := by decide +kernel
theorem dX12_init_228 : decode cX12_init 228 = .ok (.aload_n 0, 1) := by decide +kernel
theorem dX12_init_229 : decode cX12_init 229 = .ok (.bipush 40, 2) := by decide +kernel
theorem dX12_init_231 : decode cX12_init 231 = .ok (.newarray .int, 2) := by decide +kernel
theorem dX12_init_233 : decode cX12_init 233 = .ok (.putfield 117, 3) := by decide +kernel
theorem dX12_init_236 : decode cX12_init 236 = .ok (.aload_n 0, 1) := by decide +kernel
theorem dX12_init_237 : decode cX12_init 237 = .ok (.bipush 24, 2) := by decide +kernel
theorem dX12_init_239 : decode cX12_init 239 = .ok (.newarray .long, 2) := by decide +kernel
theorem dX12_init_241 : decode cX12_init 241 = .ok (.putfield 120, 3) := by decide +kernel
theorem dX12_init_244 : decode cX12_init 244 = .ok (.aload_n 0, 1) := by decide +kernel
theorem dX12_init_245 : decode cX12_init 245 = .ok (.bipush 24, 2) := by decide +kernel
theorem dX12_init_247 : decode cX12_init 247 = .ok (.newarray .int, 2) := by decide +kernel
theorem dX12_init_249 : decode cX12_init 249 = .ok (.putfield 123, 3) := by decide +kernel
theorem dX12_init_252 : decode cX12_init 252 = .ok (.aload_n 0, 1) := by decide +kernel
theorem dX12_init_253 : decode cX12_init 253 = .ok (.bipush 24, 2) := by decide +kernel
theorem dX12_init_255 : decode cX12_init 255 = .ok (.newarray .int, 2) := by decide +kernel
theorem dX12_init_257 : decode cX12_init 257 = .ok (.putfield 126, 3) := by decide +kernel
theorem dX12_init_260 : decode cX12_init 260 = .ok (.aload_n 0, 1) := by decide +kernel
theorem dX12_init_261 : decode cX12_init 261 = .ok (.bipush 24, 2) := by decide +kernel
theorem dX12_init_263 : decode cX12_init 263 = .ok (.newarray .int, 2) := by decide +kernel
theorem dX12_init_265 : decode cX12_init 265 = .ok (.putfield 129, 3) := by decide +kernel
theorem dX12_init_268 : decode cX12_init 268 = .ok (.aload_n 0, 1) := by decide +kernel
theorem dX12_init_269 : decode cX12_init 269 = .ok (.sipush 160, 3) := by decide +kernel
theorem dX12_init_272 : decode cX12_init 272 = .ok (.newarray .int, 2) := by decide +kernel
theorem dX12_init_274 : decode cX12_init 274 = .ok (.putfield 132, 3) := by decide +kernel
theorem dX12_init_277 : decode cX12_init 277 = .ok (.aload_n 0, 1) := by decide +kernel
theorem dX12_init_278 : decode cX12_init 278 = .ok (.sipush 160, 3) := by decide +kernel
theorem dX12_init_281 : decode cX12_init 281 = .ok (.newarray .int, 2) := by decide +kernel
theorem dX12_init_283 : decode cX12_init 283 = .ok (.putfield 135, 3) := by decide +kernel
theorem dX12_init_286 : decode cX12_init 286 = .ok (.aload_n 0, 1) := by decide +kernel
theorem dX12_init_287 : decode cX12_init 287 = .ok (.sipush 160, 3) := by decide +kernel
theorem dX12_init_290 : decode cX12_init 290 = .ok (.newarray .int, 2) := by decide +kernel
theorem dX12_init_292 : decode cX12_init 292 = .ok (.putfield 138, 3) := by decide +kernel
theorem dX12_init_295 : decode cX12_init 295 = .ok (.aload_n 0, 1) := by decide +kernel
theorem dX12_init_296 : decode cX12_init 296 = .ok (.iconst 2, 1) := by decide +kernel
theorem dX12_init_297 : decode cX12_init 297 = .ok (.newarray .int, 2) := by decide +kernel
theorem dX12_init_299 : decode cX12_init 299 = .ok (.putfield 141, 3) := by decide +kernel
theorem dX12_init_302 : decode cX12_init 302 = .ok (.aload_n 0, 1) := by decide +kernel
theorem dX12_init_303 : decode cX12_init 303 = .ok (.iconst 2, 1) := by decide +kernel
theorem dX12_init_304 : decode cX12_init 304 = .ok (.newarray .int, 2) := by decide +kernel
theorem dX12_init_306 : decode cX12_init 306 = .ok (.putfield 144, 3) := by decide +kernel
theorem dX12_init_309 : decode cX12_init 309 = .ok (.aload_n 0, 1) := by decide +kernel
theorem dX12_init_310 : decode cX12_init 310 = .ok (.bipush 120, 2) := by decide +kernel
theorem dX12_init_312 : decode cX12_init 312 = .ok (.newarray .int, 2) := by decide +kernel
theorem dX12_init_314 : decode cX12_init 314 = .ok (.putfield 147, 3) := by decide +kernel
theorem dX12_init_317 : decode cX12_init 317 = .ok (.aload_n 0, 1) := by decide +kernel
theorem dX12_init_318 : decode cX12_init 318 = .ok (.bipush 120, 2) := by decide +kernel
theorem dX12_init_320 : decode cX12_init 320 = .ok (.newarray .int, 2) := by decide +kernel
theorem dX12_init_322 : decode cX12_init 322 = .ok (.putfield 150, 3) := by decide +kernel
theorem dX12_init_325 : decode cX12_init 325 = .ok (.aload_n 0, 1) := by decide +kernel
theorem dX12_init_326 : decode cX12_init 326 = .ok (.bipush 120, 2) := by decide +kernel
theorem dX12_init_328 : decode cX12_init 328 = .ok (.newarray .int, 2) := by decide +kernel
theorem dX12_init_330 : decode cX12_init 330 = .ok (.putfield 153, 3) := by decide +kernel
theorem dX12_init_333 : decode cX12_init 333 = .ok (.aload_n 0, 1) := by decide +kernel
theorem dX12_init_334 : decode cX12_init 334 = .ok (.sipush 4096, 3) := by decide +kernel
theorem dX12_init_337 : decode cX12_init 337 = .ok (.newarray .boolean, 2) := by decide +kernel
theorem dX12_init_339 : decode cX12_init 339 = .ok (.putfield 156, 3) := by decide +kernel
theorem dX12_init_342 : decode cX12_init 342 = .ok (.aload_n 0, 1) := by decide +kernel
theorem dX12_init_343 : decode cX12_init 343 = .ok (.bipush 12, 2) := by decide +kernel
theorem dX12_init_345 : decode cX12_init 345 = .ok (.newarray .int, 2) := by decide +kernel
theorem dX12_init_347 : decode cX12_init 347 = .ok (.putfield 159, 3) := by decide +kernel
theorem dX12_init_350 : decode cX12_init 350 = .ok (.aload_n 0, 1) := by decide +kernel
theorem dX12_init_351 : decode cX12_init 351 = .ok (.sipush 5638, 3) := by decide +kernel
theorem dX12_init_354 : decode cX12_init 354 = .ok (.newarray .int, 2) := by decide +kernel
theorem dX12_init_356 : decode cX12_init 356 = .ok (.putfield 162, 3) := by decide +kernel
theorem dX12_init_359 : decode cX12_init 359 = .ok (.aload_n 0, 1) := by decide +kernel
theorem dX12_init_360 : decode cX12_init 360 = .ok (.bipush 28, 2) := by decide +kernel
theorem dX12_init_362 : decode cX12_init 362 = .ok (.newarray .long, 2) := by decide +kernel
theorem dX12_init_364 : decode cX12_init 364 = .ok (.putfield 165, 3) := by decide +kernel
theorem dX12_init_367 : decode cX12_init 367 = .ok (.aload_n 0, 1) := by decide +kernel
theorem dX12_init_368 : decode cX12_init 368 = .ok (.iconst 2, 1) := by decide +kernel
theorem dX12_init_369 : decode cX12_init 369 = .ok (.newarray .boolean, 2) := by decide +kernel
theorem dX12_init_371 : decode cX12_init 371 = .ok (.putfield 168, 3) := by decide +kernel
theorem dX12_init_374 : decode cX12_init 374 = .ok (.aload_n 0, 1) := by decide +kernel
theorem dX12_init_375 : decode cX12_init 375 = .ok (.getfield 44, 3) := by decide +kernel
theorem dX12_init_378 : decode cX12_init 378 = .ok (.iconst 0, 1) := by decide +kernel
theorem dX12_init_379 : decode cX12_init 379 = .ok (.ldc2_w 171, 3) := by decide +kernel
theorem dX12_init_382 : decode cX12_init 382 = .ok (.lastore, 1) := by decide +kernel
theorem dX12_init_383 : decode cX12_init 383 = .ok (.aload_n 0, 1) := by decide +kernel
theorem dX12_init_384 : decode cX12_init 384 = .ok (.getfield 44, 3) := by decide +kernel
theorem dX12_init_387 : decode cX12_init 387 = .ok (.iconst 1, 1) := by decide +kernel
theorem dX12_init_388 : decode cX12_init 388 = .ok (.ldc2_w 173, 3) := by decide +kernel
theorem dX12_init_391 : decode cX12_init 391 = .ok (.lastore, 1) := by decide +kernel
theorem dX12_init_392 : decode cX12_init 392 = .ok (.aload_n 0, 1) := by decide +kernel
theorem dX12_init_393 : decode cX12_init 393 = .ok (.getfield 44, 3) := by decide +kernel
theorem dX12_init_396 : decode cX12_init 396 = .ok (.iconst 2, 1) := by decide +kernel
theorem dX12_init_397 : decode cX12_init 397 = .ok (.ldc2_w 175, 3) := by decide +kernel
theorem dX12_init_400 : decode cX12_init 400 = .ok (.lastore, 1) := by decide +kernel
theorem dX12_init_401 : decode cX12_init 401 = .ok (.aload_n 0, 1) := by decide +kernel
theorem dX12_init_402 : decode cX12_init 402 = .ok (.getfield 44, 3) := by decide +kernel
theorem dX12_init_405 : decode cX12_init 405 = .ok (.iconst 3, 1) := by decide +kernel
theorem dX12_init_406 : decode cX12_init 406 = .ok (.ldc2_w 177, 3) := by decide +kernel
theorem dX12_init_409 : decode cX12_init 409 = .ok (.lastore, 1) := by decide +kernel
theorem dX12_init_410 : decode cX12_init 410 = .ok (.aload_n 0, 1) := by decide +kernel
theorem dX12_init_411 : decode cX12_init 411 = .ok (.getfield 44, 3) := by decide +kernel
theorem dX12_init_414 : decode cX12_init 414 = .ok (.iconst 4, 1) := by decide +kernel
theorem dX12_init_415 : decode cX12_init 415 = .ok (.ldc2_w 179, 3) := by decide +kernel
theorem dX12_init_418 : decode cX12_init 418 = .ok (.lastore, 1) := by decide +kernel
theorem dX12_init_419 : decode cX12_init 419 = .ok (.aload_n 0, 1) := by decide +kernel
theorem dX12_init_420 : decode cX12_init 420 = .ok (.getfield 44, 3) := by decide +kernel
theorem dX12_init_423 : decode cX12_init 423 = .ok (.iconst 5, 1) := by decide +kernel
theorem dX12_init_424 : decode cX12_init 424 = .ok (.ldc2_w 181, 3) := by decide +kernel
theorem dX12_init_427 : decode cX12_init 427 = .ok (.lastore, 1) := by decide +kernel
theorem dX12_init_428 : decode cX12_init 428 = .ok (.aload_n 0, 1) := by decide +kernel
theorem dX12_init_429 : decode cX12_init 429 = .ok (.getfield 44, 3) := by decide +kernel
theorem dX12_init_432 : decode cX12_init 432 = .ok (.bipush 6, 2) := by decide +kernel
theorem dX12_init_434 : decode cX12_init 434 = .ok (.ldc2_w 183, 3) := by decide +kernel
theorem dX12_init_437 : decode cX12_init 437 = .ok (.lastore, 1) := by decide +kernel
theorem dX12_init_438 : decode cX12_init 438 = .ok (.aload_n 0, 1) := by decide +kernel
theorem dX12_init_439 : decode cX12_init 439 = .ok (.getfield 44, 3) := by decide +kernel
theorem dX12_init_442 : decode cX12_init 442 = .ok (.bipush 7, 2) := by decide +kernel
theorem dX12_init_444 : decode cX12_init 444 = .ok (.ldc2_w 185, 3) := by decide +kernel
theorem dX12_init_447 : decode cX12_init 447 = .ok (.lastore, 1) := by decide +kernel
theorem dX12_init_448 : decode cX12_init 448 = .ok (.aload_n 0, 1) := by decide +kernel
theorem dX12_init_449 : decode cX12_init 449 = .ok (.getfield 44, 3) := by decide +kernel
theorem dX12_init_452 : decode cX12_init 452 = .ok (.bipush 8, 2) := by decide +kernel
theorem dX12_init_454 : decode cX12_init 454 = .ok (.ldc2_w 187, 3) := by decide +kernel
theorem dX12_init_457 : decode cX12_init 457 = .ok (.lastore, 1) := by decide +kernel
theorem dX12_init_458 : decode cX12_init 458 = .ok (.aload_n 0, 1) := by decide +kernel
theorem dX12_init_459 : decode cX12_init 459 = .ok (.getfield 44, 3) := by decide +kernel
theorem dX12_init_462 : decode cX12_init 462 = .ok (.bipush 9, 2) := by decide +kernel
theorem dX12_init_464 : decode cX12_init 464 = .ok (.ldc2_w 189, 3) := by decide +kernel
theorem dX12_init_467 : decode cX12_init 467 = .ok (.lastore, 1) := by decide +kernel
theorem dX12_init_468 : decode cX12_init 468 = .ok (.aload_n 0, 1) := by decide +kernel
theorem dX12_init_469 : decode cX12_init 469 = .ok (.getfield 44, 3) := by decide +kernel
theorem dX12_init_472 : decode cX12_init 472 = .ok (.bipush 10, 2) := by decide +kernel
theorem dX12_init_474 : decode cX12_init 474 = .ok (.ldc2_w 191, 3) := by decide +kernel
theorem dX12_init_477 : decode cX12_init 477 = .ok (.lastore, 1) := by decide +kernel
theorem dX12_init_478 : decode cX12_init 478 = .ok (.aload_n 0, 1) := by decide +kernel
theorem dX12_init_479 : decode cX12_init 479 = .ok (.getfield 44, 3) := by decide +kernel
theorem dX12_init_482 : decode cX12_init 482 = .ok (.bipush 11, 2) := by decide +kernel
theorem dX12_init_484 : decode cX12_init 484 = .ok (.ldc2_w 193, 3) := by decide +kernel
theorem dX12_init_487 : decode cX12_init 487 = .ok (.lastore, 1) := by decide +kernel
theorem dX12_init_488 : decode cX12_init 488 = .ok (.aload_n 0, 1) := by decide +kernel
theorem dX12_init_489 : decode cX12_init 489 = .ok (.getfield 44, 3) := by decide +kernel
theorem dX12_init_492 : decode cX12_init 492 = .ok (.bipush 12, 2) := by decide +kernel
theorem dX12_init_494 : decode cX12_init 494 = .ok (.ldc2_w 195, 3) := by decide +kernel
theorem dX12_init_497 : decode cX12_init 497 = .ok (.lastore, 1) := by decide +kernel
theorem dX12_init_498 : decode cX12_init 498 = .ok (.aload_n 0, 1) := by decide +kernel
theorem dX12_init_499 : decode cX12_init 499 = .ok (.getfield 44, 3) := by decide +kernel
theorem dX12_init_502 : decode cX12_init 502 = .ok (.bipush 13, 2) := by decide +kernel
theorem dX12_init_504 : decode cX12_init 504 = .ok (.ldc2_w 197, 3) := by decide +kernel
theorem dX12_init_507 : decode cX12_init 507 = .ok (.lastore, 1) := by decide +kernel
theorem dX12_init_508 : decode cX12_init 508 = .ok (.aload_n 0, 1) := by decide +kernel
theorem dX12_init_509 : decode cX12_init 509 = .ok (.getfield 44, 3) := by decide +kernel
theorem dX12_init_512 : decode cX12_init 512 = .ok (.bipush 14, 2) := by decide +kernel
theorem dX12_init_514 : decode cX12_init 514 = .ok (.ldc2_w 199, 3) := by decide +kernel
theorem dX12_init_517 : decode cX12_init 517 = .ok (.lastore, 1) := by decide +kernel
theorem dX12_init_518 : decode cX12_init 518 = .ok (.aload_n 0, 1) := by decide +kernel
theorem dX12_init_519 : decode cX12_init 519 = .ok (.getfield 44, 3) := by decide +kernel
theorem dX12_init_522 : decode cX12_init 522 = .ok (.bipush 15, 2) := by decide +kernel
theorem dX12_init_524 : decode cX12_init 524 = .ok (.ldc2_w 201, 3) := by decide +kernel
theorem dX12_init_527 : decode cX12_init 527 = .ok (.lastore, 1) := by decide +kernel
theorem dX12_init_528 : decode cX12_init 528 = .ok (.aload_n 0, 1) := by decide +kernel
theorem dX12_init_529 : decode cX12_init 529 = .ok (.getfield 44, 3) := by decide +kernel
theorem dX12_init_532 : decode cX12_init 532 = .ok (.bipush 16, 2) := by decide +kernel
theorem dX12_init_534 : decode cX12_init 534 = .ok (.ldc2_w 203, 3) := by decide +kernel
theorem dX12_init_537 : decode cX12_init 537 = .ok (.lastore, 1) := by decide +kernel
theorem dX12_init_538 : decode cX12_init 538 = .ok (.aload_n 0, 1) := by decide +kernel
theorem dX12_init_539 : decode cX12_init 539 = .ok (.getfield 44, 3) := by decide +kernel
theorem dX12_init_542 : decode cX12_init 542 = .ok (.bipush 17, 2) := by decide +kernel
theorem dX12_init_544 : decode cX12_init 544 = .ok (.ldc2_w 205, 3) := by decide +kernel
theorem dX12_init_547 : decode cX12_init 547 = .ok (.lastore, 1) := by decide +kernel
theorem dX12_init_548 : decode cX12_init 548 = .ok (.aload_n 0, 1) := by decide +kernel
theorem dX12_init_549 : decode cX12_init 549 = .ok (.getfield 44, 3) := by decide +kernel
theorem dX12_init_552 : decode cX12_init 552 = .ok (.bipush 18, 2) := by decide +kernel
theorem dX12_init_554 : decode cX12_init 554 = .ok (.ldc2_w 207, 3) := by decide +kernel
theorem dX12_init_557 : decode cX12_init 557 = .ok (.lastore, 1) := by decide +kernel
theorem dX12_init_558 : decode cX12_init 558 = .ok (.aload_n 0, 1) := by decide +kernel
theorem dX12_init_559 : decode cX12_init 559 = .ok (.getfield 44, 3) := by decide +kernel
theorem dX12_init_562 : decode cX12_init 562 = .ok (.bipush 19, 2) := by decide +kernel
theorem dX12_init_564 : decode cX12_init 564 = .ok (.ldc2_w 209, 3) := by decide +kernel
theorem dX12_init_567 : decode cX12_init 567 = .ok (.lastore, 1) := by decide +kernel
theorem dX12_init_568 : decode cX12_init 568 = .ok (.aload_n 0, 1) := by decide +kernel
theorem dX12_init_569 : decode cX12_init 569 = .ok (.getfield 44, 3) := by decide +kernel
theorem dX12_init_572 : decode cX12_init 572 = .ok (.bipush 20, 2) := by decide +kernel
theorem dX12_init_574 : decode cX12_init 574 = .ok (.ldc2_w 211, 3) := by decide +kernel
theorem dX12_init_577 : decode cX12_init 577 = .ok (.lastore, 1) := by decide +kernel
theorem dX12_init_578 : decode cX12_init 578 = .ok (.aload_n 0, 1) := by decide +kernel
theorem dX12_init_579 : decode cX12_init 579 = .ok (.getfield 44, 3) := by decide +kernel
theorem dX12_init_582 : decode cX12_init 582 = .ok (.bipush 21, 2) := by decide +kernel
theorem dX12_init_584 : decode cX12_init 584 = .ok (.ldc2_w 213, 3) := by decide +kernel
theorem dX12_init_587 : decode cX12_init 587 = .ok (.lastore, 1) := by decide +kernel
theorem dX12_init_588 : decode cX12_init 588 = .ok (.aload_n 0, 1) := by decide +kernel
theorem dX12_init_589 : decode cX12_init 589 = .ok (.getfield 44, 3) := by decide +kernel
theorem dX12_init_592 : decode cX12_init 592 = .ok (.bipush 22, 2) := by decide +kernel
theorem dX12_init_594 : decode cX12_init 594 = .ok (.ldc2_w 215, 3) := by decide +kernel
theorem dX12_init_597 : decode cX12_init 597 = .ok (.lastore, 1) := by decide +kernel
theorem dX12_init_598 : decode cX12_init 598 = .ok (.aload_n 0, 1) := by decide +kernel
theorem dX12_init_599 : decode cX12_init 599 = .ok (.invokevirtual 217, 3) := by decide +kernel
theorem dX12_init_602 : decode cX12_init 602 = .ok (.iconst 0, 1) := by decide +kernel
theorem dX12_init_603 : decode cX12_init 603 = .ok (.istore_n 1, 1) := by decide +kernel
theorem dX12_init_604 : decode cX12_init 604 = .ok (.iload_n 1, 1) := by decide +kernel
theorem dX12_init_605 : decode cX12_init 605 = .ok (.bipush 11, 2) := by decide +kernel
theorem dX12_init_607 : decode cX12_init 607 = .ok (.if_icmp .ge 21, 3) := by decide +kernel
theorem dX12_init_610 : decode cX12_init 610 = .ok (.aload_n 0, 1) := by decide +kernel
theorem dX12_init_611 : decode cX12_init 611 = .ok (.getfield 33, 3) := by decide +kernel
theorem dX12_init_614 : decode cX12_init 614 = .ok (.iload_n 1, 1) := by decide +kernel
theorem dX12_init_615 : decode cX12_init 615 = .ok (.aload_n 0, 1) := by decide +kernel
theorem dX12_init_616 : decode cX12_init 616 = .ok (.getfield 37, 3) := by decide +kernel
theorem dX12_init_619 : decode cX12_init 619 = .ok (.iload_n 1, 1) := by decide +kernel
theorem dX12_init_620 : decode cX12_init 620 = .ok (.iaload, 1) := by decide +kernel
theorem dX12_init_621 : decode cX12_init 621 = .ok (.iastore, 1) := by decide +kernel
theorem dX12_init_622 : decode cX12_init 622 = .ok (.iinc 1 1, 3) := by decide +kernel
theorem dX12_init_625 : decode cX12_init 625 = .ok (.goto (-21), 3) := by decide +kernel
theorem dX12_init_628 : decode cX12_init 628 = .ok (.return_, 1) := by decide +kernel
theorem dX12_plainHouse_0 : decode cX12_plainHouse 0 = .ok (.aload_n 0, 1) := by decide +kernel
theorem dX12_plainHouse_1 : decode cX12_plainHouse 1 = .ok (.getfield 37, 3) := by decide +kernel
theorem dX12_plainHouse_4 : decode cX12_plainHouse 4 = .ok (.iconst 0, 1) := by decide +kernel
theorem dX12_plainHouse_5 : decode cX12_plainHouse 5 = .ok (.iconst 0, 1) := by decide +kernel
theorem dX12_plainHouse_6 : decode cX12_plainHouse 6 = .ok (.iastore, 1) := by decide +kernel
theorem dX12_plainHouse_7 : decode cX12_plainHouse 7 = .ok (.aload_n 0, 1) := by decide +kernel
theorem dX12_plainHouse_8 : decode cX12_plainHouse 8 = .ok (.getfield 37, 3) := by decide +kernel
theorem dX12_plainHouse_11 : decode cX12_plainHouse 11 = .ok (.iconst 1, 1) := by decide +kernel
theorem dX12_plainHouse_12 : decode cX12_plainHouse 12 = .ok (.iconst 0, 1) := by decide +kernel
theorem dX12_plainHouse_13 : decode cX12_plainHouse 13 = .ok (.iastore, 1) := by decide +kernel
theorem dX12_plainHouse_14 : decode cX12_plainHouse 14 = .ok (.aload_n 0, 1) := by decide +kernel
theorem dX12_plainHouse_15 : decode cX12_plainHouse 15 = .ok (.getfield 37, 3) := by decide +kernel
theorem dX12_plainHouse_18 : decode cX12_plainHouse 18 = .ok (.iconst 2, 1) := by decide +kernel
theorem dX12_plainHouse_19 : decode cX12_plainHouse 19 = .ok (.iconst 2, 1) := by decide +kernel
theorem dX12_plainHouse_20 : decode cX12_plainHouse 20 = .ok (.iastore, 1) := by decide +kernel
theorem dX12_plainHouse_21 : decode cX12_plainHouse 21 = .ok (.aload_n 0, 1) := by decide +kernel
theorem dX12_plainHouse_22 : decode cX12_plainHouse 22 = .ok (.getfield 37, 3) := by decide +kernel
theorem dX12_plainHouse_25 : decode cX12_plainHouse 25 = .ok (.iconst 3, 1) := by decide +kernel
theorem dX12_plainHouse_26 : decode cX12_plainHouse 26 = .ok (.iconst 1, 1) := by decide +kernel
theorem dX12_plainHouse_27 : decode cX12_plainHouse 27 = .ok (.iastore, 1) := by decide +kernel
theorem dX12_plainHouse_28 : decode cX12_plainHouse 28 = .ok (.aload_n 0, 1) := by decide +kernel
theorem dX12_plainHouse_29 : decode cX12_plainHouse 29 = .ok (.getfield 37, 3) := by decide +kernel
theorem dX12_plainHouse_32 : decode cX12_plainHouse 32 = .ok (.iconst 4, 1) := by decide +kernel
theorem dX12_plainHouse_33 : decode cX12_plainHouse 33 = .ok (.bipush 100, 2) := by decide +kernel
theorem dX12_plainHouse_35 : decode cX12_plainHouse 35 = .ok (.iastore, 1) := by decide +kernel
theorem dX12_plainHouse_36 : decode cX12_plainHouse 36 = .ok (.aload_n 0, 1) := by decide +kernel
theorem dX12_plainHouse_37 : decode cX12_plainHouse 37 = .ok (.getfield 37, 3) := by decide +kernel
theorem dX12_plainHouse_40 : decode cX12_plainHouse 40 = .ok (.iconst 5, 1) := by decide +kernel
theorem dX12_plainHouse_41 : decode cX12_plainHouse 41 = .ok (.iconst 5, 1) := by decide +kernel
theorem dX12_plainHouse_42 : decode cX12_plainHouse 42 = .ok (.iastore, 1) := by decide +kernel
theorem dX12_plainHouse_43 : decode cX12_plainHouse 43 = .ok (.aload_n 0, 1) := by decide +kernel
theorem dX12_plainHouse_44 : decode cX12_plainHouse 44 = .ok (.getfield 37, 3) := by decide +kernel
theorem dX12_plainHouse_47 : decode cX12_plainHouse 47 = .ok (.bipush 6, 2) := by decide +kernel
theorem dX12_plainHouse_49 : decode cX12_plainHouse 49 = .ok (.bipush 100, 2) := by decide +kernel
theorem dX12_plainHouse_51 : decode cX12_plainHouse 51 = .ok (.iastore, 1) := by decide +kernel
theorem dX12_plainHouse_52 : decode cX12_plainHouse 52 = .ok (.aload_n 0, 1) := by decide +kernel
theorem dX12_plainHouse_53 : decode cX12_plainHouse 53 = .ok (.getfield 37, 3) := by decide +kernel
theorem dX12_plainHouse_56 : decode cX12_plainHouse 56 = .ok (.bipush 7, 2) := by decide +kernel
theorem dX12_plainHouse_58 : decode cX12_plainHouse 58 = .ok (.iconst 2, 1) := by decide +kernel
theorem dX12_plainHouse_59 : decode cX12_plainHouse 59 = .ok (.iastore, 1) := by decide +kernel
theorem dX12_plainHouse_60 : decode cX12_plainHouse 60 = .ok (.aload_n 0, 1) := by decide +kernel
theorem dX12_plainHouse_61 : decode cX12_plainHouse 61 = .ok (.getfield 37, 3) := by decide +kernel
theorem dX12_plainHouse_64 : decode cX12_plainHouse 64 = .ok (.bipush 8, 2) := by decide +kernel
theorem dX12_plainHouse_66 : decode cX12_plainHouse 66 = .ok (.iconst 3, 1) := by decide +kernel
theorem dX12_plainHouse_67 : decode cX12_plainHouse 67 = .ok (.iastore, 1) := by decide +kernel
theorem dX12_plainHouse_68 : decode cX12_plainHouse 68 = .ok (.aload_n 0, 1) := by decide +kernel
theorem dX12_plainHouse_69 : decode cX12_plainHouse 69 = .ok (.getfield 37, 3) := by decide +kernel
theorem dX12_plainHouse_72 : decode cX12_plainHouse 72 = .ok (.bipush 9, 2) := by decide +kernel
theorem dX12_plainHouse_74 : decode cX12_plainHouse 74 = .ok (.bipush 20, 2) := by decide +kernel
theorem dX12_plainHouse_76 : decode cX12_plainHouse 76 = .ok (.iastore, 1) := by decide +kernel
theorem dX12_plainHouse_77 : decode cX12_plainHouse 77 = .ok (.aload_n 0, 1) := by decide +kernel
theorem dX12_plainHouse_78 : decode cX12_plainHouse 78 = .ok (.getfield 37, 3) := by decide +kernel
theorem dX12_plainHouse_81 : decode cX12_plainHouse 81 = .ok (.bipush 10, 2) := by decide +kernel
theorem dX12_plainHouse_83 : decode cX12_plainHouse 83 = .ok (.bipush 40, 2) := by decide +kernel
theorem dX12_plainHouse_85 : decode cX12_plainHouse 85 = .ok (.iastore, 1) := by decide +kernel
theorem dX12_plainHouse_86 : decode cX12_plainHouse 86 = .ok (.return_, 1) := by decide +kernel
theorem dX12_peek_0 : decode cX12_peek 0 = .ok (.aload_n 0, 1) := by decide +kernel
theorem dX12_peek_1 : decode cX12_peek 1 = .ok (.getfield 21, 3) := by decide +kernel
theorem dX12_peek_4 : decode cX12_peek 4 = .ok (.aload_n 0, 1) := by decide +kernel
theorem dX12_peek_5 : decode cX12_peek 5 = .ok (.getfield 18, 3) := by decide +kernel
theorem dX12_peek_8 : decode cX12_peek 8 = .ok (.if_icmp .ge 19, 3) := by decide +kernel
theorem dX12_peek_11 : decode cX12_peek 11 = .ok (.aload_n 0, 1) := by decide +kernel
theorem dX12_peek_12 : decode cX12_peek 12 = .ok (.getfield 14, 3) := by decide +kernel
theorem dX12_peek_15 : decode cX12_peek 15 = .ok (.aload_n 0, 1) := by decide +kernel
theorem dX12_peek_16 : decode cX12_peek 16 = .ok (.getfield 21, 3) := by decide +kernel
theorem dX12_peek_19 : decode cX12_peek 19 = .ok (.baload, 1) := by decide +kernel
theorem dX12_peek_20 : decode cX12_peek 20 = .ok (.sipush 255, 3) := by decide +kernel
theorem dX12_peek_23 : decode cX12_peek 23 = .ok (.iand, 1) := by decide +kernel
theorem dX12_peek_24 : decode cX12_peek 24 = .ok (.goto 4, 3) := by decide +kernel
theorem dX12_peek_27 : decode cX12_peek 27 = .ok (.iconst (-1), 1) := by decide +kernel
theorem dX12_peek_28 : decode cX12_peek 28 = .ok (.ireturn, 1) := by decide +kernel
theorem dX12_isSmall_0 : decode cX12_isSmall 0 = .ok (.iload_n 0, 1) := by decide +kernel
theorem dX12_isSmall_1 : decode cX12_isSmall 1 = .ok (.bipush 97, 2) := by decide +kernel
theorem dX12_isSmall_3 : decode cX12_isSmall 3 = .ok (.if_icmp .lt 13, 3) := by decide +kernel
theorem dX12_isSmall_6 : decode cX12_isSmall 6 = .ok (.iload_n 0, 1) := by decide +kernel
theorem dX12_isSmall_7 : decode cX12_isSmall 7 = .ok (.bipush 122, 2) := by decide +kernel
theorem dX12_isSmall_9 : decode cX12_isSmall 9 = .ok (.if_icmp .gt 7, 3) := by decide +kernel
theorem dX12_isSmall_12 : decode cX12_isSmall 12 = .ok (.iconst 1, 1) := by decide +kernel
theorem dX12_isSmall_13 : decode cX12_isSmall 13 = .ok (.goto 4, 3) := by decide +kernel
theorem dX12_isSmall_16 : decode cX12_isSmall 16 = .ok (.iconst 0, 1) := by decide +kernel
theorem dX12_isSmall_17 : decode cX12_isSmall 17 = .ok (.ireturn, 1) := by decide +kernel
theorem dX12_isDigit_0 : decode cX12_isDigit 0 = .ok (.iload_n 0, 1) := by decide +kernel
theorem dX12_isDigit_1 : decode cX12_isDigit 1 = .ok (.bipush 48, 2) := by decide +kernel
theorem dX12_isDigit_3 : decode cX12_isDigit 3 = .ok (.if_icmp .lt 13, 3) := by decide +kernel
theorem dX12_isDigit_6 : decode cX12_isDigit 6 = .ok (.iload_n 0, 1) := by decide +kernel
theorem dX12_isDigit_7 : decode cX12_isDigit 7 = .ok (.bipush 57, 2) := by decide +kernel
theorem dX12_isDigit_9 : decode cX12_isDigit 9 = .ok (.if_icmp .gt 7, 3) := by decide +kernel
theorem dX12_isDigit_12 : decode cX12_isDigit 12 = .ok (.iconst 1, 1) := by decide +kernel
theorem dX12_isDigit_13 : decode cX12_isDigit 13 = .ok (.goto 4, 3) := by decide +kernel
theorem dX12_isDigit_16 : decode cX12_isDigit 16 = .ok (.iconst 0, 1) := by decide +kernel
theorem dX12_isDigit_17 : decode cX12_isDigit 17 = .ok (.ireturn, 1) := by decide +kernel
theorem dX12_next_0 : decode cX12_next 0 = .ok (.aload_n 0, 1) := by decide +kernel
theorem dX12_next_1 : decode cX12_next 1 = .ok (.invokevirtual 220, 3) := by decide +kernel
theorem dX12_next_4 : decode cX12_next 4 = .ok (.bipush 32, 2) := by decide +kernel
theorem dX12_next_6 : decode cX12_next 6 = .ok (.if_icmp .eq 12, 3) := by decide +kernel
theorem dX12_next_9 : decode cX12_next 9 = .ok (.aload_n 0, 1) := by decide +kernel
theorem dX12_next_10 : decode cX12_next 10 = .ok (.invokevirtual 220, 3) := by decide +kernel
theorem dX12_next_13 : decode cX12_next 13 = .ok (.bipush 10, 2) := by decide +kernel
theorem dX12_next_15 : decode cX12_next 15 = .ok (.if_icmp .ne 16, 3) := by decide +kernel
theorem dX12_next_18 : decode cX12_next 18 = .ok (.aload_n 0, 1) := by decide +kernel
theorem dX12_next_19 : decode cX12_next 19 = .ok (.dup, 1) := by decide +kernel
theorem dX12_next_20 : decode cX12_next 20 = .ok (.getfield 21, 3) := by decide +kernel
theorem dX12_next_23 : decode cX12_next 23 = .ok (.iconst 1, 1) := by decide +kernel
theorem dX12_next_24 : decode cX12_next 24 = .ok (.iadd, 1) := by decide +kernel
theorem dX12_next_25 : decode cX12_next 25 = .ok (.putfield 21, 3) := by decide +kernel
theorem dX12_next_28 : decode cX12_next 28 = .ok (.goto (-28), 3) := by decide +kernel
theorem dX12_next_31 : decode cX12_next 31 = .ok (.aload_n 0, 1) := by decide +kernel
theorem dX12_next_32 : decode cX12_next 32 = .ok (.aload_n 0, 1) := by decide +kernel
theorem dX12_next_33 : decode cX12_next 33 = .ok (.getfield 21, 3) := by decide +kernel
theorem dX12_next_36 : decode cX12_next 36 = .ok (.putfield 224, 3) := by decide +kernel
theorem dX12_next_39 : decode cX12_next 39 = .ok (.aload_n 0, 1) := by decide +kernel
theorem dX12_next_40 : decode cX12_next 40 = .ok (.iconst 0, 1) := by decide +kernel
theorem dX12_next_41 : decode cX12_next 41 = .ok (.putfield 227, 3) := by decide +kernel
theorem dX12_next_44 : decode cX12_next 44 = .ok (.aload_n 0, 1) := by decide +kernel
theorem dX12_next_45 : decode cX12_next 45 = .ok (.getfield 18, 3) := by decide +kernel
theorem dX12_next_48 : decode cX12_next 48 = .ok (.aload_n 0, 1) := by decide +kernel
theorem dX12_next_49 : decode cX12_next 49 = .ok (.getfield 24, 3) := by decide +kernel
theorem dX12_next_52 : decode cX12_next 52 = .ok (.if_icmp .le 28, 3) := by decide +kernel
theorem dX12_next_55 : decode cX12_next 55 = .ok (.aload_n 0, 1) := by decide +kernel
theorem dX12_next_56 : decode cX12_next 56 = .ok (.getfield 21, 3) := by decide +kernel
theorem dX12_next_59 : decode cX12_next 59 = .ok (.aload_n 0, 1) := by decide +kernel
theorem dX12_next_60 : decode cX12_next 60 = .ok (.getfield 24, 3) := by decide +kernel
theorem dX12_next_63 : decode cX12_next 63 = .ok (.if_icmp .lt 17, 3) := by decide +kernel
theorem dX12_next_66 : decode cX12_next 66 = .ok (.aload_n 0, 1) := by decide +kernel
theorem dX12_next_67 : decode cX12_next 67 = .ok (.aload_n 0, 1) := by decide +kernel
theorem dX12_next_68 : decode cX12_next 68 = .ok (.getfield 24, 3) := by decide +kernel
theorem dX12_next_71 : decode cX12_next 71 = .ok (.putfield 224, 3) := by decide +kernel
theorem dX12_next_74 : decode cX12_next 74 = .ok (.aload_n 0, 1) := by decide +kernel
theorem dX12_next_75 : decode cX12_next 75 = .ok (.iconst 4, 1) := by decide +kernel
theorem dX12_next_76 : decode cX12_next 76 = .ok (.putfield 230, 3) := by decide +kernel
theorem dX12_next_79 : decode cX12_next 79 = .ok (.return_, 1) := by decide +kernel
theorem dX12_next_80 : decode cX12_next 80 = .ok (.aload_n 0, 1) := by decide +kernel
theorem dX12_next_81 : decode cX12_next 81 = .ok (.invokevirtual 220, 3) := by decide +kernel
theorem dX12_next_84 : decode cX12_next 84 = .ok (.istore_n 1, 1) := by decide +kernel
theorem dX12_next_85 : decode cX12_next 85 = .ok (.iload_n 1, 1) := by decide +kernel
theorem dX12_next_86 : decode cX12_next 86 = .ok (.ifCond .ge 9, 3) := by decide +kernel
theorem dX12_next_89 : decode cX12_next 89 = .ok (.aload_n 0, 1) := by decide +kernel
theorem dX12_next_90 : decode cX12_next 90 = .ok (.iconst 0, 1) := by decide +kernel
theorem dX12_next_91 : decode cX12_next 91 = .ok (.putfield 230, 3) := by decide +kernel
theorem dX12_next_94 : decode cX12_next 94 = .ok (.return_, 1) := by decide +kernel
theorem dX12_next_95 : decode cX12_next 95 = .ok (.iload_n 1, 1) := by decide +kernel
theorem dX12_next_96 : decode cX12_next 96 = .ok (.invokestatic 233, 3) := by decide +kernel
theorem dX12_next_99 : decode cX12_next 99 = .ok (.ifCond .ne 77, 3) := by decide +kernel
theorem dX12_next_102 : decode cX12_next 102 = .ok (.iload_n 1, 1) := by decide +kernel
theorem dX12_next_103 : decode cX12_next 103 = .ok (.invokestatic 237, 3) := by decide +kernel
theorem dX12_next_106 : decode cX12_next 106 = .ok (.ifCond .ne 70, 3) := by decide +kernel
theorem dX12_next_109 : decode cX12_next 109 = .ok (.aload_n 0, 1) := by decide +kernel
theorem dX12_next_110 : decode cX12_next 110 = .ok (.iload_n 1, 1) := by decide +kernel
theorem dX12_next_111 : decode cX12_next 111 = .ok (.bipush 59, 2) := by decide +kernel
theorem dX12_next_113 : decode cX12_next 113 = .ok (.if_icmp .eq 39, 3) := by decide +kernel
theorem dX12_next_116 : decode cX12_next 116 = .ok (.iload_n 1, 1) := by decide +kernel
theorem dX12_next_117 : decode cX12_next 117 = .ok (.bipush 43, 2) := by decide +kernel
theorem dX12_next_119 : decode cX12_next 119 = .ok (.if_icmp .eq 33, 3) := by decide +kernel
theorem dX12_next_122 : decode cX12_next 122 = .ok (.iload_n 1, 1) := by decide +kernel
theorem dX12_next_123 : decode cX12_next 123 = .ok (.bipush 45, 2) := by decide +kernel
theorem dX12_next_125 : decode cX12_next 125 = .ok (.if_icmp .eq 27, 3) := by decide +kernel
theorem dX12_next_128 : decode cX12_next 128 = .ok (.iload_n 1, 1) := by decide +kernel
theorem dX12_next_129 : decode cX12_next 129 = .ok (.bipush 40, 2) := by decide +kernel
theorem dX12_next_131 : decode cX12_next 131 = .ok (.if_icmp .eq 21, 3) := by decide +kernel
theorem dX12_next_134 : decode cX12_next 134 = .ok (.iload_n 1, 1) := by decide +kernel
theorem dX12_next_135 : decode cX12_next 135 = .ok (.bipush 41, 2) := by decide +kernel
theorem dX12_next_137 : decode cX12_next 137 = .ok (.if_icmp .eq 15, 3) := by decide +kernel
theorem dX12_next_140 : decode cX12_next 140 = .ok (.iload_n 1, 1) := by decide +kernel
theorem dX12_next_141 : decode cX12_next 141 = .ok (.bipush 60, 2) := by decide +kernel
theorem dX12_next_143 : decode cX12_next 143 = .ok (.if_icmp .lt 13, 3) := by decide +kernel
theorem dX12_next_146 : decode cX12_next 146 = .ok (.iload_n 1, 1) := by decide +kernel
theorem dX12_next_147 : decode cX12_next 147 = .ok (.bipush 62, 2) := by decide +kernel
theorem dX12_next_149 : decode cX12_next 149 = .ok (.if_icmp .gt 7, 3) := by decide +kernel
theorem dX12_next_152 : decode cX12_next 152 = .ok (.iconst 3, 1) := by decide +kernel
theorem dX12_next_153 : decode cX12_next 153 = .ok (.goto 4, 3) := by decide +kernel
theorem dX12_next_156 : decode cX12_next 156 = .ok (.iconst 4, 1) := by decide +kernel
theorem dX12_next_157 : decode cX12_next 157 = .ok (.putfield 230, 3) := by decide +kernel
theorem dX12_next_160 : decode cX12_next 160 = .ok (.aload_n 0, 1) := by decide +kernel
theorem dX12_next_161 : decode cX12_next 161 = .ok (.iload_n 1, 1) := by decide +kernel
theorem dX12_next_162 : decode cX12_next 162 = .ok (.putfield 240, 3) := by decide +kernel
theorem dX12_next_165 : decode cX12_next 165 = .ok (.aload_n 0, 1) := by decide +kernel
theorem dX12_next_166 : decode cX12_next 166 = .ok (.dup, 1) := by decide +kernel
theorem dX12_next_167 : decode cX12_next 167 = .ok (.getfield 21, 3) := by decide +kernel
theorem dX12_next_170 : decode cX12_next 170 = .ok (.iconst 1, 1) := by decide +kernel
theorem dX12_next_171 : decode cX12_next 171 = .ok (.iadd, 1) := by decide +kernel
theorem dX12_next_172 : decode cX12_next 172 = .ok (.putfield 21, 3) := by decide +kernel
theorem dX12_next_175 : decode cX12_next 175 = .ok (.return_, 1) := by decide +kernel
theorem dX12_next_176 : decode cX12_next 176 = .ok (.iload_n 1, 1) := by decide +kernel
theorem dX12_next_177 : decode cX12_next 177 = .ok (.invokestatic 233, 3) := by decide +kernel
theorem dX12_next_180 : decode cX12_next 180 = .ok (.istore_n 2, 1) := by decide +kernel
theorem dX12_next_181 : decode cX12_next 181 = .ok (.iconst 1, 1) := by decide +kernel
theorem dX12_next_182 : decode cX12_next 182 = .ok (.istore_n 3, 1) := by decide +kernel
theorem dX12_next_183 : decode cX12_next 183 = .ok (.aload_n 0, 1) := by decide +kernel
theorem dX12_next_184 : decode cX12_next 184 = .ok (.lconst 0, 1) := by decide +kernel
theorem dX12_next_185 : decode cX12_next 185 = .ok (.putfield 243, 3) := by decide +kernel
theorem dX12_next_188 : decode cX12_next 188 = .ok (.aload_n 0, 1) := by decide +kernel
theorem dX12_next_189 : decode cX12_next 189 = .ok (.iconst 0, 1) := by decide +kernel
theorem dX12_next_190 : decode cX12_next 190 = .ok (.putfield 240, 3) := by decide +kernel
theorem dX12_next_193 : decode cX12_next 193 = .ok (.aload_n 0, 1) := by decide +kernel
theorem dX12_next_194 : decode cX12_next 194 = .ok (.invokevirtual 220, 3) := by decide +kernel
theorem dX12_next_197 : decode cX12_next 197 = .ok (.invokestatic 233, 3) := by decide +kernel
theorem dX12_next_200 : decode cX12_next 200 = .ok (.ifCond .ne 13, 3) := by decide +kernel
theorem dX12_next_203 : decode cX12_next 203 = .ok (.aload_n 0, 1) := by decide +kernel
theorem dX12_next_204 : decode cX12_next 204 = .ok (.invokevirtual 220, 3) := by decide +kernel
theorem dX12_next_207 : decode cX12_next 207 = .ok (.invokestatic 237, 3) := by decide +kernel
theorem dX12_next_210 : decode cX12_next 210 = .ok (.ifCond .eq 100, 3) := by decide +kernel
theorem dX12_next_213 : decode cX12_next 213 = .ok (.iload_n 3, 1) := by decide +kernel
theorem dX12_next_214 : decode cX12_next 214 = .ok (.ifCond .eq 18, 3) := by decide +kernel
theorem dX12_next_217 : decode cX12_next 217 = .ok (.aload_n 0, 1) := by decide +kernel
theorem dX12_next_218 : decode cX12_next 218 = .ok (.invokevirtual 220, 3) := by decide +kernel
theorem dX12_next_221 : decode cX12_next 221 = .ok (.invokestatic 233, 3) := by decide +kernel
theorem dX12_next_224 : decode cX12_next 224 = .ok (.iload_n 2, 1) := by decide +kernel
theorem dX12_next_225 : decode cX12_next 225 = .ok (.if_icmp .ne 7, 3) := by decide +kernel
theorem dX12_next_228 : decode cX12_next 228 = .ok (.iconst 1, 1) := by decide +kernel
theorem dX12_next_229 : decode cX12_next 229 = .ok (.goto 4, 3) := by decide +kernel
theorem dX12_next_232 : decode cX12_next 232 = .ok (.iconst 0, 1) := by decide +kernel
theorem dX12_next_233 : decode cX12_next 233 = .ok (.istore_n 3, 1) := by decide +kernel
theorem dX12_next_234 : decode cX12_next 234 = .ok (.aload_n 0, 1) := by decide +kernel
theorem dX12_next_235 : decode cX12_next 235 = .ok (.getfield 227, 3) := by decide +kernel
theorem dX12_next_238 : decode cX12_next 238 = .ok (.bipush 6, 2) := by decide +kernel
theorem dX12_next_240 : decode cX12_next 240 = .ok (.if_icmp .ge 20, 3) := by decide +kernel
theorem dX12_next_243 : decode cX12_next 243 = .ok (.aload_n 0, 1) := by decide +kernel
theorem dX12_next_244 : decode cX12_next 244 = .ok (.aload_n 0, 1) := by decide +kernel
theorem dX12_next_245 : decode cX12_next 245 = .ok (.getfield 243, 3) := by decide +kernel
theorem dX12_next_248 : decode cX12_next 248 = .ok (.bipush 8, 2) := by decide +kernel
theorem dX12_next_250 : decode cX12_next 250 = .ok (.lshl, 1) := by decide +kernel
theorem dX12_next_251 : decode cX12_next 251 = .ok (.aload_n 0, 1) := by decide +kernel
theorem dX12_next_252 : decode cX12_next 252 = .ok (.invokevirtual 220, 3) := by decide +kernel
theorem dX12_next_255 : decode cX12_next 255 = .ok (.i2l, 1) := by decide +kernel
theorem dX12_next_256 : decode cX12_next 256 = .ok (.lor, 1) := by decide +kernel
theorem dX12_next_257 : decode cX12_next 257 = .ok (.putfield 243, 3) := by decide +kernel
theorem dX12_next_260 : decode cX12_next 260 = .ok (.aload_n 0, 1) := by decide +kernel
theorem dX12_next_261 : decode cX12_next 261 = .ok (.getfield 227, 3) := by decide +kernel
theorem dX12_next_264 : decode cX12_next 264 = .ok (.iconst 3, 1) := by decide +kernel
theorem dX12_next_265 : decode cX12_next 265 = .ok (.if_icmp .ge 22, 3) := by decide +kernel
theorem dX12_next_268 : decode cX12_next 268 = .ok (.aload_n 0, 1) := by decide +kernel
theorem dX12_next_269 : decode cX12_next 269 = .ok (.bipush 10, 2) := by decide +kernel
theorem dX12_next_271 : decode cX12_next 271 = .ok (.aload_n 0, 1) := by decide +kernel
theorem dX12_next_272 : decode cX12_next 272 = .ok (.getfield 240, 3) := by decide +kernel
theorem dX12_next_275 : decode cX12_next 275 = .ok (.imul, 1) := by decide +kernel
theorem dX12_next_276 : decode cX12_next 276 = .ok (.aload_n 0, 1) := by decide +kernel
theorem dX12_next_277 : decode cX12_next 277 = .ok (.invokevirtual 220, 3) := by decide +kernel
theorem dX12_next_280 : decode cX12_next 280 = .ok (.iadd, 1) := by decide +kernel
theorem dX12_next_281 : decode cX12_next 281 = .ok (.bipush 48, 2) := by decide +kernel
theorem dX12_next_283 : decode cX12_next 283 = .ok (.isub, 1) := by decide +kernel
theorem dX12_next_284 : decode cX12_next 284 = .ok (.putfield 240, 3) := by decide +kernel
theorem dX12_next_287 : decode cX12_next 287 = .ok (.aload_n 0, 1) := by decide +kernel
theorem dX12_next_288 : decode cX12_next 288 = .ok (.dup, 1) := by decide +kernel
theorem dX12_next_289 : decode cX12_next 289 = .ok (.getfield 227, 3) := by decide +kernel
theorem dX12_next_292 : decode cX12_next 292 = .ok (.iconst 1, 1) := by decide +kernel
theorem dX12_next_293 : decode cX12_next 293 = .ok (.iadd, 1) := by decide +kernel
theorem dX12_next_294 : decode cX12_next 294 = .ok (.putfield 227, 3) := by decide +kernel
theorem dX12_next_297 : decode cX12_next 297 = .ok (.aload_n 0, 1) := by decide +kernel
theorem dX12_next_298 : decode cX12_next 298 = .ok (.dup, 1) := by decide +kernel
theorem dX12_next_299 : decode cX12_next 299 = .ok (.getfield 21, 3) := by decide +kernel
theorem dX12_next_302 : decode cX12_next 302 = .ok (.iconst 1, 1) := by decide +kernel
theorem dX12_next_303 : decode cX12_next 303 = .ok (.iadd, 1) := by decide +kernel
theorem dX12_next_304 : decode cX12_next 304 = .ok (.putfield 21, 3) := by decide +kernel
theorem dX12_next_307 : decode cX12_next 307 = .ok (.goto (-114), 3) := by decide +kernel
theorem dX12_next_310 : decode cX12_next 310 = .ok (.aload_n 0, 1) := by decide +kernel
theorem dX12_next_311 : decode cX12_next 311 = .ok (.iload_n 3, 1) := by decide +kernel
theorem dX12_next_312 : decode cX12_next 312 = .ok (.ifCond .eq 20, 3) := by decide +kernel
theorem dX12_next_315 : decode cX12_next 315 = .ok (.aload_n 0, 1) := by decide +kernel
theorem dX12_next_316 : decode cX12_next 316 = .ok (.getfield 227, 3) := by decide +kernel
theorem dX12_next_319 : decode cX12_next 319 = .ok (.iload_n 2, 1) := by decide +kernel
theorem dX12_next_320 : decode cX12_next 320 = .ok (.ifCond .eq 8, 3) := by decide +kernel
theorem dX12_next_323 : decode cX12_next 323 = .ok (.bipush 6, 2) := by decide +kernel
theorem dX12_next_325 : decode cX12_next 325 = .ok (.goto 4, 3) := by decide +kernel
theorem dX12_next_328 : decode cX12_next 328 = .ok (.iconst 3, 1) := by decide +kernel
theorem dX12_next_329 : decode cX12_next 329 = .ok (.if_icmp .le 7, 3) := by decide +kernel
theorem dX12_next_332 : decode cX12_next 332 = .ok (.iconst 4, 1) := by decide +kernel
theorem dX12_next_333 : decode cX12_next 333 = .ok (.goto 12, 3) := by decide +kernel
theorem dX12_next_336 : decode cX12_next 336 = .ok (.iload_n 2, 1) := by decide +kernel
theorem dX12_next_337 : decode cX12_next 337 = .ok (.ifCond .eq 7, 3) := by decide +kernel
theorem dX12_next_340 : decode cX12_next 340 = .ok (.iconst 1, 1) := by decide +kernel
theorem dX12_next_341 : decode cX12_next 341 = .ok (.goto 4, 3) := by decide +kernel
theorem dX12_next_344 : decode cX12_next 344 = .ok (.iconst 2, 1) := by decide +kernel
theorem dX12_next_345 : decode cX12_next 345 = .ok (.putfield 230, 3) := by decide +kernel
theorem dX12_next_348 : decode cX12_next 348 = .ok (.return_, 1) := by decide +kernel
theorem dX12_bad_0 : decode cX12_bad 0 = .ok (.aload_n 0, 1) := by decide +kernel
theorem dX12_bad_1 : decode cX12_bad 1 = .ok (.iload_n 1, 1) := by decide +kernel
theorem dX12_bad_2 : decode cX12_bad 2 = .ok (.putfield 247, 3) := by decide +kernel
theorem dX12_bad_5 : decode cX12_bad 5 = .ok (.aload_n 0, 1) := by decide +kernel
theorem dX12_bad_6 : decode cX12_bad 6 = .ok (.aload_n 0, 1) := by decide +kernel
theorem dX12_bad_7 : decode cX12_bad 7 = .ok (.getfield 224, 3) := by decide +kernel
theorem dX12_bad_10 : decode cX12_bad 10 = .ok (.putfield 250, 3) := by decide +kernel
theorem dX12_bad_13 : decode cX12_bad 13 = .ok (.iconst 0, 1) := by decide +kernel
theorem dX12_bad_14 : decode cX12_bad 14 = .ok (.ireturn, 1) := by decide +kernel
theorem dX12_isWord_0 : decode cX12_isWord 0 = .ok (.aload_n 0, 1) := by decide +kernel
theorem dX12_isWord_1 : decode cX12_isWord 1 = .ok (.getfield 230, 3) := by decide +kernel
theorem dX12_isWord_4 : decode cX12_isWord 4 = .ok (.iconst 1, 1) := by decide +kernel
theorem dX12_isWord_5 : decode cX12_isWord 5 = .ok (.if_icmp .ne 16, 3) := by decide +kernel
theorem dX12_isWord_8 : decode cX12_isWord 8 = .ok (.aload_n 0, 1) := by decide +kernel
theorem dX12_isWord_9 : decode cX12_isWord 9 = .ok (.getfield 243, 3) := by decide +kernel
theorem dX12_isWord_12 : decode cX12_isWord 12 = .ok (.lload_n 1, 1) := by decide +kernel
theorem dX12_isWord_13 : decode cX12_isWord 13 = .ok (.lcmp, 1) := by decide +kernel
theorem dX12_isWord_14 : decode cX12_isWord 14 = .ok (.ifCond .ne 7, 3) := by decide +kernel
theorem dX12_isWord_17 : decode cX12_isWord 17 = .ok (.iconst 1, 1) := by decide +kernel
theorem dX12_isWord_18 : decode cX12_isWord 18 = .ok (.goto 4, 3) := by decide +kernel
theorem dX12_isWord_21 : decode cX12_isWord 21 = .ok (.iconst 0, 1) := by decide +kernel
theorem dX12_isWord_22 : decode cX12_isWord 22 = .ok (.ireturn, 1) := by decide +kernel
theorem dX12_isSign_0 : decode cX12_isSign 0 = .ok (.aload_n 0, 1) := by decide +kernel
theorem dX12_isSign_1 : decode cX12_isSign 1 = .ok (.getfield 230, 3) := by decide +kernel
theorem dX12_isSign_4 : decode cX12_isSign 4 = .ok (.iconst 3, 1) := by decide +kernel
theorem dX12_isSign_5 : decode cX12_isSign 5 = .ok (.if_icmp .ne 15, 3) := by decide +kernel
theorem dX12_isSign_8 : decode cX12_isSign 8 = .ok (.aload_n 0, 1) := by decide +kernel
theorem dX12_isSign_9 : decode cX12_isSign 9 = .ok (.getfield 240, 3) := by decide +kernel
theorem dX12_isSign_12 : decode cX12_isSign 12 = .ok (.iload_n 1, 1) := by decide +kernel
theorem dX12_isSign_13 : decode cX12_isSign 13 = .ok (.if_icmp .ne 7, 3) := by decide +kernel
theorem dX12_isSign_16 : decode cX12_isSign 16 = .ok (.iconst 1, 1) := by decide +kernel
theorem dX12_isSign_17 : decode cX12_isSign 17 = .ok (.goto 4, 3) := by decide +kernel
theorem dX12_isSign_20 : decode cX12_isSign 20 = .ok (.iconst 0, 1) := by decide +kernel
theorem dX12_isSign_21 : decode cX12_isSign 21 = .ok (.ireturn, 1) := by decide +kernel
theorem dX12_sign_0 : decode cX12_sign 0 = .ok (.aload_n 0, 1) := by decide +kernel
theorem dX12_sign_1 : decode cX12_sign 1 = .ok (.iload_n 1, 1) := by decide +kernel
theorem dX12_sign_2 : decode cX12_sign 2 = .ok (.invokevirtual 253, 3) := by decide +kernel
theorem dX12_sign_5 : decode cX12_sign 5 = .ok (.ifCond .ne 9, 3) := by decide +kernel
theorem dX12_sign_8 : decode cX12_sign 8 = .ok (.aload_n 0, 1) := by decide +kernel
theorem dX12_sign_9 : decode cX12_sign 9 = .ok (.iconst 1, 1) := by decide +kernel
theorem dX12_sign_10 : decode cX12_sign 10 = .ok (.invokevirtual 256, 3) := by decide +kernel
theorem dX12_sign_13 : decode cX12_sign 13 = .ok (.ireturn, 1) := by decide +kernel
theorem dX12_sign_14 : decode cX12_sign 14 = .ok (.aload_n 0, 1) := by decide +kernel
theorem dX12_sign_15 : decode cX12_sign 15 = .ok (.invokevirtual 259, 3) := by decide +kernel
theorem dX12_sign_18 : decode cX12_sign 18 = .ok (.iconst 1, 1) := by decide +kernel
theorem dX12_sign_19 : decode cX12_sign 19 = .ok (.ireturn, 1) := by decide +kernel
theorem dX12_isName_0 : decode cX12_isName 0 = .ok (.aload_n 0, 1) := by decide +kernel
theorem dX12_isName_1 : decode cX12_isName 1 = .ok (.getfield 230, 3) := by decide +kernel
theorem dX12_isName_4 : decode cX12_isName 4 = .ok (.iconst 1, 1) := by decide +kernel
theorem dX12_isName_5 : decode cX12_isName 5 = .ok (.if_icmp .ne 7, 3) := by decide +kernel
theorem dX12_isName_8 : decode cX12_isName 8 = .ok (.iconst 1, 1) := by decide +kernel
theorem dX12_isName_9 : decode cX12_isName 9 = .ok (.goto 4, 3) := by decide +kernel
theorem dX12_isName_12 : decode cX12_isName 12 = .ok (.iconst 0, 1) := by decide +kernel
theorem dX12_isName_13 : decode cX12_isName 13 = .ok (.istore_n 1, 1) := by decide +kernel
theorem dX12_isName_14 : decode cX12_isName 14 = .ok (.iconst 0, 1) := by decide +kernel
theorem dX12_isName_15 : decode cX12_isName 15 = .ok (.istore_n 2, 1) := by decide +kernel
theorem dX12_isName_16 : decode cX12_isName 16 = .ok (.iload_n 2, 1) := by decide +kernel
theorem dX12_isName_17 : decode cX12_isName 17 = .ok (.bipush 23, 2) := by decide +kernel
theorem dX12_isName_19 : decode cX12_isName 19 = .ok (.if_icmp .ge 33, 3) := by decide +kernel
theorem dX12_isName_22 : decode cX12_isName 22 = .ok (.iload_n 1, 1) := by decide +kernel
theorem dX12_isName_23 : decode cX12_isName 23 = .ok (.ifCond .eq 21, 3) := by decide +kernel
theorem dX12_isName_26 : decode cX12_isName 26 = .ok (.aload_n 0, 1) := by decide +kernel
theorem dX12_isName_27 : decode cX12_isName 27 = .ok (.getfield 243, 3) := by decide +kernel
theorem dX12_isName_30 : decode cX12_isName 30 = .ok (.aload_n 0, 1) := by decide +kernel
theorem dX12_isName_31 : decode cX12_isName 31 = .ok (.getfield 44, 3) := by decide +kernel
theorem dX12_isName_34 : decode cX12_isName 34 = .ok (.iload_n 2, 1) := by decide +kernel
theorem dX12_isName_35 : decode cX12_isName 35 = .ok (.laload, 1) := by decide +kernel
theorem dX12_isName_36 : decode cX12_isName 36 = .ok (.lcmp, 1) := by decide +kernel
theorem dX12_isName_37 : decode cX12_isName 37 = .ok (.ifCond .eq 7, 3) := by decide +kernel
theorem dX12_isName_40 : decode cX12_isName 40 = .ok (.iconst 1, 1) := by decide +kernel
theorem dX12_isName_41 : decode cX12_isName 41 = .ok (.goto 4, 3) := by decide +kernel
theorem dX12_isName_44 : decode cX12_isName 44 = .ok (.iconst 0, 1) := by decide +kernel
theorem dX12_isName_45 : decode cX12_isName 45 = .ok (.istore_n 1, 1) := by decide +kernel
theorem dX12_isName_46 : decode cX12_isName 46 = .ok (.iinc 2 1, 3) := by decide +kernel
theorem dX12_isName_49 : decode cX12_isName 49 = .ok (.goto (-33), 3) := by decide +kernel
theorem dX12_isName_52 : decode cX12_isName 52 = .ok (.iload_n 1, 1) := by decide +kernel
theorem dX12_isName_53 : decode cX12_isName 53 = .ok (.ireturn, 1) := by decide +kernel
theorem dX12_takes_0 : decode cX12_takes 0 = .ok (.aload_n 0, 1) := by decide +kernel
theorem dX12_takes_1 : decode cX12_takes 1 = .ok (.getfield 230, 3) := by decide +kernel
theorem dX12_takes_4 : decode cX12_takes 4 = .ok (.iconst 2, 1) := by decide +kernel
theorem dX12_takes_5 : decode cX12_takes 5 = .ok (.if_icmp .eq 9, 3) := by decide +kernel
theorem dX12_takes_8 : decode cX12_takes 8 = .ok (.aload_n 0, 1) := by decide +kernel
theorem dX12_takes_9 : decode cX12_takes 9 = .ok (.iconst 1, 1) := by decide +kernel
theorem dX12_takes_10 : decode cX12_takes 10 = .ok (.invokevirtual 256, 3) := by decide +kernel
theorem dX12_takes_13 : decode cX12_takes 13 = .ok (.ireturn, 1) := by decide +kernel
theorem dX12_takes_14 : decode cX12_takes 14 = .ok (.aload_n 0, 1) := by decide +kernel
theorem dX12_takes_15 : decode cX12_takes 15 = .ok (.getfield 240, 3) := by decide +kernel
theorem dX12_takes_18 : decode cX12_takes 18 = .ok (.iload_n 1, 1) := by decide +kernel
theorem dX12_takes_19 : decode cX12_takes 19 = .ok (.iload_n 2, 1) := by decide +kernel
theorem dX12_takes_20 : decode cX12_takes 20 = .ok (.invokestatic 262, 3) := by decide +kernel
theorem dX12_takes_23 : decode cX12_takes 23 = .ok (.ifCond .ne 9, 3) := by decide +kernel
theorem dX12_takes_26 : decode cX12_takes 26 = .ok (.aload_n 0, 1) := by decide +kernel
theorem dX12_takes_27 : decode cX12_takes 27 = .ok (.iconst 2, 1) := by decide +kernel
theorem dX12_takes_28 : decode cX12_takes 28 = .ok (.invokevirtual 256, 3) := by decide +kernel
theorem dX12_takes_31 : decode cX12_takes 31 = .ok (.ireturn, 1) := by decide +kernel
theorem dX12_takes_32 : decode cX12_takes 32 = .ok (.aload_n 0, 1) := by decide +kernel
theorem dX12_takes_33 : decode cX12_takes 33 = .ok (.aload_n 0, 1) := by decide +kernel
theorem dX12_takes_34 : decode cX12_takes 34 = .ok (.getfield 240, 3) := by decide +kernel
theorem dX12_takes_37 : decode cX12_takes 37 = .ok (.putfield 266, 3) := by decide +kernel
theorem dX12_takes_40 : decode cX12_takes 40 = .ok (.aload_n 0, 1) := by decide +kernel
theorem dX12_takes_41 : decode cX12_takes 41 = .ok (.invokevirtual 259, 3) := by decide +kernel
theorem dX12_takes_44 : decode cX12_takes 44 = .ok (.iconst 1, 1) := by decide +kernel
theorem dX12_takes_45 : decode cX12_takes 45 = .ok (.ireturn, 1) := by decide +kernel
theorem dX12_isTold_0 : decode cX12_isTold 0 = .ok (.iconst 0, 1) := by decide +kernel
theorem dX12_isTold_1 : decode cX12_isTold 1 = .ok (.istore_n 3, 1) := by decide +kernel
theorem dX12_isTold_2 : decode cX12_isTold 2 = .ok (.iload_n 3, 1) := by decide +kernel
theorem dX12_isTold_3 : decode cX12_isTold 3 = .ok (.iload_n 2, 1) := by decide +kernel
theorem dX12_isTold_4 : decode cX12_isTold 4 = .ok (.if_icmp .ge 27, 3) := by decide +kernel
theorem dX12_isTold_7 : decode cX12_isTold 7 = .ok (.aload_n 0, 1) := by decide +kernel
theorem dX12_isTold_8 : decode cX12_isTold 8 = .ok (.getfield 40, 3) := by decide +kernel
theorem dX12_isTold_11 : decode cX12_isTold 11 = .ok (.iload_n 1, 1) := by decide +kernel
theorem dX12_isTold_12 : decode cX12_isTold 12 = .ok (.iload_n 3, 1) := by decide +kernel
theorem dX12_isTold_13 : decode cX12_isTold 13 = .ok (.iadd, 1) := by decide +kernel
theorem dX12_isTold_14 : decode cX12_isTold 14 = .ok (.laload, 1) := by decide +kernel
theorem dX12_isTold_15 : decode cX12_isTold 15 = .ok (.aload_n 0, 1) := by decide +kernel
theorem dX12_isTold_16 : decode cX12_isTold 16 = .ok (.getfield 243, 3) := by decide +kernel
theorem dX12_isTold_19 : decode cX12_isTold 19 = .ok (.lcmp, 1) := by decide +kernel
theorem dX12_isTold_20 : decode cX12_isTold 20 = .ok (.ifCond .ne 5, 3) := by decide +kernel
theorem dX12_isTold_23 : decode cX12_isTold 23 = .ok (.iconst 1, 1) := by decide +kernel
theorem dX12_isTold_24 : decode cX12_isTold 24 = .ok (.ireturn, 1) := by decide +kernel
theorem dX12_isTold_25 : decode cX12_isTold 25 = .ok (.iinc 3 1, 3) := by decide +kernel
theorem dX12_isTold_28 : decode cX12_isTold 28 = .ok (.goto (-26), 3) := by decide +kernel
theorem dX12_isTold_31 : decode cX12_isTold 31 = .ok (.iconst 0, 1) := by decide +kernel
theorem dX12_isTold_32 : decode cX12_isTold 32 = .ok (.ireturn, 1) := by decide +kernel
theorem dX12_named_0 : decode cX12_named 0 = .ok (.aload_n 0, 1) := by decide +kernel
theorem dX12_named_1 : decode cX12_named 1 = .ok (.getfield 37, 3) := by decide +kernel
theorem dX12_named_4 : decode cX12_named 4 = .ok (.iload_n 1, 1) := by decide +kernel
theorem dX12_named_5 : decode cX12_named 5 = .ok (.iaload, 1) := by decide +kernel
theorem dX12_named_6 : decode cX12_named 6 = .ok (.iload_n 2, 1) := by decide +kernel
theorem dX12_named_7 : decode cX12_named 7 = .ok (.if_icmp .ne 9, 3) := by decide +kernel
theorem dX12_named_10 : decode cX12_named 10 = .ok (.aload_n 0, 1) := by decide +kernel
theorem dX12_named_11 : decode cX12_named 11 = .ok (.iconst 4, 1) := by decide +kernel
theorem dX12_named_12 : decode cX12_named 12 = .ok (.invokevirtual 256, 3) := by decide +kernel
theorem dX12_named_15 : decode cX12_named 15 = .ok (.ireturn, 1) := by decide +kernel
theorem dX12_named_16 : decode cX12_named 16 = .ok (.aload_n 0, 1) := by decide +kernel
theorem dX12_named_17 : decode cX12_named 17 = .ok (.invokevirtual 259, 3) := by decide +kernel
theorem dX12_named_20 : decode cX12_named 20 = .ok (.aload_n 0, 1) := by decide +kernel
theorem dX12_named_21 : decode cX12_named 21 = .ok (.invokevirtual 269, 3) := by decide +kernel
theorem dX12_named_24 : decode cX12_named 24 = .ok (.ifCond .ne 9, 3) := by decide +kernel
theorem dX12_named_27 : decode cX12_named 27 = .ok (.aload_n 0, 1) := by decide +kernel
theorem dX12_named_28 : decode cX12_named 28 = .ok (.iconst 1, 1) := by decide +kernel
theorem dX12_named_29 : decode cX12_named 29 = .ok (.invokevirtual 256, 3) := by decide +kernel
theorem dX12_named_32 : decode cX12_named 32 = .ok (.ireturn, 1) := by decide +kernel
theorem dX12_named_33 : decode cX12_named 33 = .ok (.aload_n 0, 1) := by decide +kernel
theorem dX12_named_34 : decode cX12_named 34 = .ok (.bipush 14, 2) := by decide +kernel
theorem dX12_named_36 : decode cX12_named 36 = .ok (.aload_n 0, 1) := by decide +kernel
theorem dX12_named_37 : decode cX12_named 37 = .ok (.getfield 37, 3) := by decide +kernel
theorem dX12_named_40 : decode cX12_named 40 = .ok (.iconst 0, 1) := by decide +kernel
theorem dX12_named_41 : decode cX12_named 41 = .ok (.iaload, 1) := by decide +kernel
theorem dX12_named_42 : decode cX12_named 42 = .ok (.invokevirtual 273, 3) := by decide +kernel
theorem dX12_named_45 : decode cX12_named 45 = .ok (.ifCond .ne 18, 3) := by decide +kernel
theorem dX12_named_48 : decode cX12_named 48 = .ok (.aload_n 0, 1) := by decide +kernel
theorem dX12_named_49 : decode cX12_named 49 = .ok (.bipush 20, 2) := by decide +kernel
theorem dX12_named_51 : decode cX12_named 51 = .ok (.aload_n 0, 1) := by decide +kernel
theorem dX12_named_52 : decode cX12_named 52 = .ok (.getfield 37, 3) := by decide +kernel
theorem dX12_named_55 : decode cX12_named 55 = .ok (.iconst 1, 1) := by decide +kernel
theorem dX12_named_56 : decode cX12_named 56 = .ok (.iaload, 1) := by decide +kernel
theorem dX12_named_57 : decode cX12_named 57 = .ok (.invokevirtual 273, 3) := by decide +kernel
theorem dX12_named_60 : decode cX12_named 60 = .ok (.ifCond .eq 9, 3) := by decide +kernel
theorem dX12_named_63 : decode cX12_named 63 = .ok (.aload_n 0, 1) := by decide +kernel
theorem dX12_named_64 : decode cX12_named 64 = .ok (.iconst 3, 1) := by decide +kernel
theorem dX12_named_65 : decode cX12_named 65 = .ok (.invokevirtual 256, 3) := by decide +kernel
theorem dX12_named_68 : decode cX12_named 68 = .ok (.ireturn, 1) := by decide +kernel
theorem dX12_named_69 : decode cX12_named 69 = .ok (.aload_n 0, 1) := by decide +kernel
theorem dX12_named_70 : decode cX12_named 70 = .ok (.getfield 40, 3) := by decide +kernel
theorem dX12_named_73 : decode cX12_named 73 = .ok (.bipush 14, 2) := by decide +kernel
theorem dX12_named_75 : decode cX12_named 75 = .ok (.iload_n 3, 1) := by decide +kernel
theorem dX12_named_76 : decode cX12_named 76 = .ok (.iadd, 1) := by decide +kernel
theorem dX12_named_77 : decode cX12_named 77 = .ok (.aload_n 0, 1) := by decide +kernel
theorem dX12_named_78 : decode cX12_named 78 = .ok (.getfield 37, 3) := by decide +kernel
theorem dX12_named_81 : decode cX12_named 81 = .ok (.iload_n 1, 1) := by decide +kernel
theorem dX12_named_82 : decode cX12_named 82 = .ok (.iaload, 1) := by decide +kernel
theorem dX12_named_83 : decode cX12_named 83 = .ok (.iadd, 1) := by decide +kernel
theorem dX12_named_84 : decode cX12_named 84 = .ok (.aload_n 0, 1) := by decide +kernel
theorem dX12_named_85 : decode cX12_named 85 = .ok (.getfield 243, 3) := by decide +kernel
theorem dX12_named_88 : decode cX12_named 88 = .ok (.lastore, 1) := by decide +kernel
theorem dX12_named_89 : decode cX12_named 89 = .ok (.aload_n 0, 1) := by decide +kernel
theorem dX12_named_90 : decode cX12_named 90 = .ok (.getfield 37, 3) := by decide +kernel
theorem dX12_named_93 : decode cX12_named 93 = .ok (.iload_n 1, 1) := by decide +kernel
theorem dX12_named_94 : decode cX12_named 94 = .ok (.dup2, 1) := by decide +kernel
theorem dX12_named_95 : decode cX12_named 95 = .ok (.iaload, 1) := by decide +kernel
theorem dX12_named_96 : decode cX12_named 96 = .ok (.iconst 1, 1) := by decide +kernel
theorem dX12_named_97 : decode cX12_named 97 = .ok (.iadd, 1) := by decide +kernel
theorem dX12_named_98 : decode cX12_named 98 = .ok (.iastore, 1) := by decide +kernel
theorem dX12_named_99 : decode cX12_named 99 = .ok (.aload_n 0, 1) := by decide +kernel
theorem dX12_named_100 : decode cX12_named 100 = .ok (.invokevirtual 259, 3) := by decide +kernel
theorem dX12_named_103 : decode cX12_named 103 = .ok (.iconst 1, 1) := by decide +kernel
theorem dX12_named_104 : decode cX12_named 104 = .ok (.ireturn, 1) := by decide +kernel
theorem dX12_told_0 : decode cX12_told 0 = .ok (.aload_n 0, 1) := by decide +kernel
theorem dX12_told_1 : decode cX12_told 1 = .ok (.getfield 277, 3) := by decide +kernel
theorem dX12_told_4 : decode cX12_told 4 = .ok (.iload_n 1, 1) := by decide +kernel
theorem dX12_told_5 : decode cX12_told 5 = .ok (.ishr, 1) := by decide +kernel
theorem dX12_told_6 : decode cX12_told 6 = .ok (.iconst 1, 1) := by decide +kernel
theorem dX12_told_7 : decode cX12_told 7 = .ok (.iand, 1) := by decide +kernel
theorem dX12_told_8 : decode cX12_told 8 = .ok (.iconst 1, 1) := by decide +kernel
theorem dX12_told_9 : decode cX12_told 9 = .ok (.if_icmp .ne 9, 3) := by decide +kernel
theorem dX12_told_12 : decode cX12_told 12 = .ok (.aload_n 0, 1) := by decide +kernel
theorem dX12_told_13 : decode cX12_told 13 = .ok (.iconst 3, 1) := by decide +kernel
theorem dX12_told_14 : decode cX12_told 14 = .ok (.invokevirtual 256, 3) := by decide +kernel
theorem dX12_told_17 : decode cX12_told 17 = .ok (.ireturn, 1) := by decide +kernel
theorem dX12_told_18 : decode cX12_told 18 = .ok (.aload_n 0, 1) := by decide +kernel
theorem dX12_told_19 : decode cX12_told 19 = .ok (.dup, 1) := by decide +kernel
theorem dX12_told_20 : decode cX12_told 20 = .ok (.getfield 277, 3) := by decide +kernel
theorem dX12_told_23 : decode cX12_told 23 = .ok (.iconst 1, 1) := by decide +kernel
theorem dX12_told_24 : decode cX12_told 24 = .ok (.iload_n 1, 1) := by decide +kernel
theorem dX12_told_25 : decode cX12_told 25 = .ok (.ishl, 1) := by decide +kernel
theorem dX12_told_26 : decode cX12_told 26 = .ok (.ior, 1) := by decide +kernel
theorem dX12_told_27 : decode cX12_told 27 = .ok (.putfield 277, 3) := by decide +kernel
theorem dX12_told_30 : decode cX12_told 30 = .ok (.aload_n 0, 1) := by decide +kernel
theorem dX12_told_31 : decode cX12_told 31 = .ok (.invokevirtual 259, 3) := by decide +kernel
theorem dX12_told_34 : decode cX12_told 34 = .ok (.aload_n 0, 1) := by decide +kernel
theorem dX12_told_35 : decode cX12_told 35 = .ok (.iload_n 2, 1) := by decide +kernel
theorem dX12_told_36 : decode cX12_told 36 = .ok (.iload_n 3, 1) := by decide +kernel
theorem dX12_told_37 : decode cX12_told 37 = .ok (.invokevirtual 280, 3) := by decide +kernel
theorem dX12_told_40 : decode cX12_told 40 = .ok (.ifCond .ne 5, 3) := by decide +kernel
theorem dX12_told_43 : decode cX12_told 43 = .ok (.iconst 0, 1) := by decide +kernel
theorem dX12_told_44 : decode cX12_told 44 = .ok (.ireturn, 1) := by decide +kernel
theorem dX12_told_45 : decode cX12_told 45 = .ok (.aload_n 0, 1) := by decide +kernel
theorem dX12_told_46 : decode cX12_told 46 = .ok (.getfield 37, 3) := by decide +kernel
theorem dX12_told_49 : decode cX12_told 49 = .ok (.iload_n 1, 1) := by decide +kernel
theorem dX12_told_50 : decode cX12_told 50 = .ok (.aload_n 0, 1) := by decide +kernel
theorem dX12_told_51 : decode cX12_told 51 = .ok (.getfield 266, 3) := by decide +kernel
theorem dX12_told_54 : decode cX12_told 54 = .ok (.iastore, 1) := by decide +kernel
theorem dX12_told_55 : decode cX12_told 55 = .ok (.iload_n 1, 1) := by decide +kernel
theorem dX12_told_56 : decode cX12_told 56 = .ok (.iconst 2, 1) := by decide +kernel
theorem dX12_told_57 : decode cX12_told 57 = .ok (.if_icmp .eq 5, 3) := by decide +kernel
theorem dX12_told_60 : decode cX12_told 60 = .ok (.iconst 1, 1) := by decide +kernel
theorem dX12_told_61 : decode cX12_told 61 = .ok (.ireturn, 1) := by decide +kernel
theorem dX12_told_62 : decode cX12_told 62 = .ok (.aload_n 0, 1) := by decide +kernel
theorem dX12_told_63 : decode cX12_told 63 = .ok (.iconst 0, 1) := by decide +kernel
theorem dX12_told_64 : decode cX12_told 64 = .ok (.bipush 99, 2) := by decide +kernel
theorem dX12_told_66 : decode cX12_told 66 = .ok (.invokevirtual 280, 3) := by decide +kernel
theorem dX12_told_69 : decode cX12_told 69 = .ok (.ifCond .ne 5, 3) := by decide +kernel
theorem dX12_told_72 : decode cX12_told 72 = .ok (.iconst 0, 1) := by decide +kernel
theorem dX12_told_73 : decode cX12_told 73 = .ok (.ireturn, 1) := by decide +kernel
theorem dX12_told_74 : decode cX12_told 74 = .ok (.aload_n 0, 1) := by decide +kernel
theorem dX12_told_75 : decode cX12_told 75 = .ok (.getfield 37, 3) := by decide +kernel
theorem dX12_told_78 : decode cX12_told 78 = .ok (.iconst 3, 1) := by decide +kernel
theorem dX12_told_79 : decode cX12_told 79 = .ok (.aload_n 0, 1) := by decide +kernel
theorem dX12_told_80 : decode cX12_told 80 = .ok (.getfield 266, 3) := by decide +kernel
theorem dX12_told_83 : decode cX12_told 83 = .ok (.iastore, 1) := by decide +kernel
theorem dX12_told_84 : decode cX12_told 84 = .ok (.iconst 1, 1) := by decide +kernel
theorem dX12_told_85 : decode cX12_told 85 = .ok (.ireturn, 1) := by decide +kernel
theorem dX12_line_0 : decode cX12_line 0 = .ok (.aload_n 0, 1) := by decide +kernel
theorem dX12_line_1 : decode cX12_line 1 = .ok (.ldc2_w 171, 3) := by decide +kernel
theorem dX12_line_4 : decode cX12_line 4 = .ok (.invokevirtual 283, 3) := by decide +kernel
theorem dX12_line_7 : decode cX12_line 7 = .ok (.ifCond .eq 12, 3) := by decide +kernel
theorem dX12_line_10 : decode cX12_line 10 = .ok (.aload_n 0, 1) := by decide +kernel
theorem dX12_line_11 : decode cX12_line 11 = .ok (.iconst 0, 1) := by decide +kernel
theorem dX12_line_12 : decode cX12_line 12 = .ok (.bipush 6, 2) := by decide +kernel
theorem dX12_line_14 : decode cX12_line 14 = .ok (.iconst 0, 1) := by decide +kernel
theorem dX12_line_15 : decode cX12_line 15 = .ok (.invokevirtual 287, 3) := by decide +kernel
theorem dX12_line_18 : decode cX12_line 18 = .ok (.ireturn, 1) := by decide +kernel
theorem dX12_line_19 : decode cX12_line 19 = .ok (.aload_n 0, 1) := by decide +kernel
theorem dX12_line_20 : decode cX12_line 20 = .ok (.ldc2_w 173, 3) := by decide +kernel
theorem dX12_line_23 : decode cX12_line 23 = .ok (.invokevirtual 283, 3) := by decide +kernel
theorem dX12_line_26 : decode cX12_line 26 = .ok (.ifCond .eq 13, 3) := by decide +kernel
theorem dX12_line_29 : decode cX12_line 29 = .ok (.aload_n 0, 1) := by decide +kernel
theorem dX12_line_30 : decode cX12_line 30 = .ok (.iconst 1, 1) := by decide +kernel
theorem dX12_line_31 : decode cX12_line 31 = .ok (.bipush 8, 2) := by decide +kernel
theorem dX12_line_33 : decode cX12_line 33 = .ok (.bipush 6, 2) := by decide +kernel
theorem dX12_line_35 : decode cX12_line 35 = .ok (.invokevirtual 287, 3) := by decide +kernel
theorem dX12_line_38 : decode cX12_line 38 = .ok (.ireturn, 1) := by decide +kernel
theorem dX12_line_39 : decode cX12_line 39 = .ok (.aload_n 0, 1) := by decide +kernel
theorem dX12_line_40 : decode cX12_line 40 = .ok (.ldc2_w 175, 3) := by decide +kernel
theorem dX12_line_43 : decode cX12_line 43 = .ok (.invokevirtual 283, 3) := by decide +kernel
theorem dX12_line_46 : decode cX12_line 46 = .ok (.ifCond .eq 12, 3) := by decide +kernel
theorem dX12_line_49 : decode cX12_line 49 = .ok (.aload_n 0, 1) := by decide +kernel
theorem dX12_line_50 : decode cX12_line 50 = .ok (.iconst 2, 1) := by decide +kernel
theorem dX12_line_51 : decode cX12_line 51 = .ok (.iconst 0, 1) := by decide +kernel
theorem dX12_line_52 : decode cX12_line 52 = .ok (.bipush 99, 2) := by decide +kernel
theorem dX12_line_54 : decode cX12_line 54 = .ok (.invokevirtual 290, 3) := by decide +kernel
theorem dX12_line_57 : decode cX12_line 57 = .ok (.ireturn, 1) := by decide +kernel
theorem dX12_line_58 : decode cX12_line 58 = .ok (.aload_n 0, 1) := by decide +kernel
theorem dX12_line_59 : decode cX12_line 59 = .ok (.ldc2_w 177, 3) := by decide +kernel
theorem dX12_line_62 : decode cX12_line 62 = .ok (.invokevirtual 283, 3) := by decide +kernel
theorem dX12_line_65 : decode cX12_line 65 = .ok (.ifCond .eq 13, 3) := by decide +kernel
theorem dX12_line_68 : decode cX12_line 68 = .ok (.aload_n 0, 1) := by decide +kernel
theorem dX12_line_69 : decode cX12_line 69 = .ok (.iconst 4, 1) := by decide +kernel
theorem dX12_line_70 : decode cX12_line 70 = .ok (.iconst 1, 1) := by decide +kernel
theorem dX12_line_71 : decode cX12_line 71 = .ok (.sipush 999, 3) := by decide +kernel
theorem dX12_line_74 : decode cX12_line 74 = .ok (.invokevirtual 290, 3) := by decide +kernel
theorem dX12_line_77 : decode cX12_line 77 = .ok (.ireturn, 1) := by decide +kernel
theorem dX12_line_78 : decode cX12_line 78 = .ok (.aload_n 0, 1) := by decide +kernel
theorem dX12_line_79 : decode cX12_line 79 = .ok (.ldc2_w 179, 3) := by decide +kernel
theorem dX12_line_82 : decode cX12_line 82 = .ok (.invokevirtual 283, 3) := by decide +kernel
theorem dX12_line_85 : decode cX12_line 85 = .ok (.ifCond .eq 12, 3) := by decide +kernel
theorem dX12_line_88 : decode cX12_line 88 = .ok (.aload_n 0, 1) := by decide +kernel
theorem dX12_line_89 : decode cX12_line 89 = .ok (.iconst 5, 1) := by decide +kernel
theorem dX12_line_90 : decode cX12_line 90 = .ok (.iconst 1, 1) := by decide +kernel
theorem dX12_line_91 : decode cX12_line 91 = .ok (.bipush 99, 2) := by decide +kernel
theorem dX12_line_93 : decode cX12_line 93 = .ok (.invokevirtual 290, 3) := by decide +kernel
theorem dX12_line_96 : decode cX12_line 96 = .ok (.ireturn, 1) := by decide +kernel
theorem dX12_line_97 : decode cX12_line 97 = .ok (.aload_n 0, 1) := by decide +kernel
theorem dX12_line_98 : decode cX12_line 98 = .ok (.ldc2_w 181, 3) := by decide +kernel
theorem dX12_line_101 : decode cX12_line 101 = .ok (.invokevirtual 283, 3) := by decide +kernel
theorem dX12_line_104 : decode cX12_line 104 = .ok (.ifCond .eq 14, 3) := by decide +kernel
theorem dX12_line_107 : decode cX12_line 107 = .ok (.aload_n 0, 1) := by decide +kernel
theorem dX12_line_108 : decode cX12_line 108 = .ok (.bipush 6, 2) := by decide +kernel
theorem dX12_line_110 : decode cX12_line 110 = .ok (.iconst 1, 1) := by decide +kernel
theorem dX12_line_111 : decode cX12_line 111 = .ok (.sipush 999, 3) := by decide +kernel
theorem dX12_line_114 : decode cX12_line 114 = .ok (.invokevirtual 290, 3) := by decide +kernel
theorem dX12_line_117 : decode cX12_line 117 = .ok (.ireturn, 1) := by decide +kernel
theorem dX12_line_118 : decode cX12_line 118 = .ok (.aload_n 0, 1) := by decide +kernel
theorem dX12_line_119 : decode cX12_line 119 = .ok (.ldc2_w 183, 3) := by decide +kernel
theorem dX12_line_122 : decode cX12_line 122 = .ok (.invokevirtual 283, 3) := by decide +kernel
theorem dX12_line_125 : decode cX12_line 125 = .ok (.ifCond .eq 13, 3) := by decide +kernel
theorem dX12_line_128 : decode cX12_line 128 = .ok (.aload_n 0, 1) := by decide +kernel
theorem dX12_line_129 : decode cX12_line 129 = .ok (.bipush 7, 2) := by decide +kernel
theorem dX12_line_131 : decode cX12_line 131 = .ok (.iconst 0, 1) := by decide +kernel
theorem dX12_line_132 : decode cX12_line 132 = .ok (.bipush 99, 2) := by decide +kernel
theorem dX12_line_134 : decode cX12_line 134 = .ok (.invokevirtual 290, 3) := by decide +kernel
theorem dX12_line_137 : decode cX12_line 137 = .ok (.ireturn, 1) := by decide +kernel
theorem dX12_line_138 : decode cX12_line 138 = .ok (.aload_n 0, 1) := by decide +kernel
theorem dX12_line_139 : decode cX12_line 139 = .ok (.ldc2_w 185, 3) := by decide +kernel
theorem dX12_line_142 : decode cX12_line 142 = .ok (.invokevirtual 283, 3) := by decide +kernel
theorem dX12_line_145 : decode cX12_line 145 = .ok (.ifCond .eq 13, 3) := by decide +kernel
theorem dX12_line_148 : decode cX12_line 148 = .ok (.aload_n 0, 1) := by decide +kernel
theorem dX12_line_149 : decode cX12_line 149 = .ok (.bipush 8, 2) := by decide +kernel
theorem dX12_line_151 : decode cX12_line 151 = .ok (.iconst 0, 1) := by decide +kernel
theorem dX12_line_152 : decode cX12_line 152 = .ok (.bipush 99, 2) := by decide +kernel
theorem dX12_line_154 : decode cX12_line 154 = .ok (.invokevirtual 290, 3) := by decide +kernel
theorem dX12_line_157 : decode cX12_line 157 = .ok (.ireturn, 1) := by decide +kernel
theorem dX12_line_158 : decode cX12_line 158 = .ok (.aload_n 0, 1) := by decide +kernel
theorem dX12_line_159 : decode cX12_line 159 = .ok (.ldc2_w 187, 3) := by decide +kernel
theorem dX12_line_162 : decode cX12_line 162 = .ok (.invokevirtual 283, 3) := by decide +kernel
theorem dX12_line_165 : decode cX12_line 165 = .ok (.ifCond .eq 13, 3) := by decide +kernel
theorem dX12_line_168 : decode cX12_line 168 = .ok (.aload_n 0, 1) := by decide +kernel
theorem dX12_line_169 : decode cX12_line 169 = .ok (.bipush 9, 2) := by decide +kernel
theorem dX12_line_171 : decode cX12_line 171 = .ok (.iconst 0, 1) := by decide +kernel
theorem dX12_line_172 : decode cX12_line 172 = .ok (.bipush 99, 2) := by decide +kernel
theorem dX12_line_174 : decode cX12_line 174 = .ok (.invokevirtual 290, 3) := by decide +kernel
theorem dX12_line_177 : decode cX12_line 177 = .ok (.ireturn, 1) := by decide +kernel
theorem dX12_line_178 : decode cX12_line 178 = .ok (.aload_n 0, 1) := by decide +kernel
theorem dX12_line_179 : decode cX12_line 179 = .ok (.ldc2_w 189, 3) := by decide +kernel
theorem dX12_line_182 : decode cX12_line 182 = .ok (.invokevirtual 283, 3) := by decide +kernel
theorem dX12_line_185 : decode cX12_line 185 = .ok (.ifCond .eq 15, 3) := by decide +kernel
theorem dX12_line_188 : decode cX12_line 188 = .ok (.aload_n 0, 1) := by decide +kernel
theorem dX12_line_189 : decode cX12_line 189 = .ok (.bipush 10, 2) := by decide +kernel
theorem dX12_line_191 : decode cX12_line 191 = .ok (.iconst 0, 1) := by decide +kernel
theorem dX12_line_192 : decode cX12_line 192 = .ok (.bipush 99, 2) := by decide +kernel
theorem dX12_line_194 : decode cX12_line 194 = .ok (.invokevirtual 290, 3) := by decide +kernel
theorem dX12_line_197 : decode cX12_line 197 = .ok (.goto 8, 3) := by decide +kernel
theorem dX12_line_200 : decode cX12_line 200 = .ok (.aload_n 0, 1) := by decide +kernel
theorem dX12_line_201 : decode cX12_line 201 = .ok (.iconst 1, 1) := by decide +kernel
theorem dX12_line_202 : decode cX12_line 202 = .ok (.invokevirtual 256, 3) := by decide +kernel
theorem dX12_line_205 : decode cX12_line 205 = .ok (.ireturn, 1) := by decide +kernel
theorem dX12_house_0 : decode cX12_house 0 = .ok (.aload_n 0, 1) := by decide +kernel
theorem dX12_house_1 : decode cX12_house 1 = .ok (.iconst 0, 1) := by decide +kernel
theorem dX12_house_2 : decode cX12_house 2 = .ok (.putfield 1, 3) := by decide +kernel
theorem dX12_house_5 : decode cX12_house 5 = .ok (.aload_n 0, 1) := by decide +kernel
theorem dX12_house_6 : decode cX12_house 6 = .ok (.sipush 500, 3) := by decide +kernel
theorem dX12_house_9 : decode cX12_house 9 = .ok (.invokevirtual 292, 3) := by decide +kernel
theorem dX12_house_12 : decode cX12_house 12 = .ok (.aload_n 0, 1) := by decide +kernel
theorem dX12_house_13 : decode cX12_house 13 = .ok (.iconst 0, 1) := by decide +kernel
theorem dX12_house_14 : decode cX12_house 14 = .ok (.putfield 247, 3) := by decide +kernel
theorem dX12_house_17 : decode cX12_house 17 = .ok (.aload_n 0, 1) := by decide +kernel
theorem dX12_house_18 : decode cX12_house 18 = .ok (.iconst 0, 1) := by decide +kernel
theorem dX12_house_19 : decode cX12_house 19 = .ok (.putfield 277, 3) := by decide +kernel
theorem dX12_house_22 : decode cX12_house 22 = .ok (.aload_n 0, 1) := by decide +kernel
theorem dX12_house_23 : decode cX12_house 23 = .ok (.iconst 0, 1) := by decide +kernel
theorem dX12_house_24 : decode cX12_house 24 = .ok (.putfield 295, 3) := by decide +kernel
theorem dX12_house_27 : decode cX12_house 27 = .ok (.aload_n 0, 1) := by decide +kernel
theorem dX12_house_28 : decode cX12_house 28 = .ok (.invokevirtual 217, 3) := by decide +kernel
theorem dX12_house_31 : decode cX12_house 31 = .ok (.aload_n 0, 1) := by decide +kernel
theorem dX12_house_32 : decode cX12_house 32 = .ok (.invokevirtual 259, 3) := by decide +kernel
theorem dX12_house_35 : decode cX12_house 35 = .ok (.aload_n 0, 1) := by decide +kernel
theorem dX12_house_36 : decode cX12_house 36 = .ok (.getfield 230, 3) := by decide +kernel
theorem dX12_house_39 : decode cX12_house 39 = .ok (.ifCond .eq 39, 3) := by decide +kernel
theorem dX12_house_42 : decode cX12_house 42 = .ok (.aload_n 0, 1) := by decide +kernel
theorem dX12_house_43 : decode cX12_house 43 = .ok (.invokevirtual 298, 3) := by decide +kernel
theorem dX12_house_46 : decode cX12_house 46 = .ok (.ifCond .eq 12, 3) := by decide +kernel
theorem dX12_house_49 : decode cX12_house 49 = .ok (.aload_n 0, 1) := by decide +kernel
theorem dX12_house_50 : decode cX12_house 50 = .ok (.bipush 59, 2) := by decide +kernel
theorem dX12_house_52 : decode cX12_house 52 = .ok (.invokevirtual 301, 3) := by decide +kernel
theorem dX12_house_55 : decode cX12_house 55 = .ok (.ifCond .ne 10, 3) := by decide +kernel
theorem dX12_house_58 : decode cX12_house 58 = .ok (.iconst (-1), 1) := by decide +kernel
theorem dX12_house_59 : decode cX12_house 59 = .ok (.aload_n 0, 1) := by decide +kernel
theorem dX12_house_60 : decode cX12_house 60 = .ok (.getfield 250, 3) := by decide +kernel
theorem dX12_house_63 : decode cX12_house 63 = .ok (.isub, 1) := by decide +kernel
theorem dX12_house_64 : decode cX12_house 64 = .ok (.ireturn, 1) := by decide +kernel
theorem dX12_house_65 : decode cX12_house 65 = .ok (.aload_n 0, 1) := by decide +kernel
theorem dX12_house_66 : decode cX12_house 66 = .ok (.dup, 1) := by decide +kernel
theorem dX12_house_67 : decode cX12_house 67 = .ok (.getfield 295, 3) := by decide +kernel
theorem dX12_house_70 : decode cX12_house 70 = .ok (.iconst 1, 1) := by decide +kernel
theorem dX12_house_71 : decode cX12_house 71 = .ok (.iadd, 1) := by decide +kernel
theorem dX12_house_72 : decode cX12_house 72 = .ok (.putfield 295, 3) := by decide +kernel
theorem dX12_house_75 : decode cX12_house 75 = .ok (.goto (-40), 3) := by decide +kernel
theorem dX12_house_78 : decode cX12_house 78 = .ok (.iconst 0, 1) := by decide +kernel
theorem dX12_house_79 : decode cX12_house 79 = .ok (.istore_n 1, 1) := by decide +kernel
theorem dX12_house_80 : decode cX12_house 80 = .ok (.iload_n 1, 1) := by decide +kernel
theorem dX12_house_81 : decode cX12_house 81 = .ok (.sipush 2819, 3) := by decide +kernel
theorem dX12_house_84 : decode cX12_house 84 = .ok (.if_icmp .ge 31, 3) := by decide +kernel
theorem dX12_house_87 : decode cX12_house 87 = .ok (.aload_n 0, 1) := by decide +kernel
theorem dX12_house_88 : decode cX12_house 88 = .ok (.getfield 33, 3) := by decide +kernel
theorem dX12_house_91 : decode cX12_house 91 = .ok (.iload_n 1, 1) := by decide +kernel
theorem dX12_house_92 : decode cX12_house 92 = .ok (.iload_n 1, 1) := by decide +kernel
theorem dX12_house_93 : decode cX12_house 93 = .ok (.bipush 11, 2) := by decide +kernel
theorem dX12_house_95 : decode cX12_house 95 = .ok (.if_icmp .ge 12, 3) := by decide +kernel
theorem dX12_house_98 : decode cX12_house 98 = .ok (.aload_n 0, 1) := by decide +kernel
theorem dX12_house_99 : decode cX12_house 99 = .ok (.getfield 37, 3) := by decide +kernel
theorem dX12_house_102 : decode cX12_house 102 = .ok (.iload_n 1, 1) := by decide +kernel
theorem dX12_house_103 : decode cX12_house 103 = .ok (.iaload, 1) := by decide +kernel
theorem dX12_house_104 : decode cX12_house 104 = .ok (.goto 4, 3) := by decide +kernel
theorem dX12_house_107 : decode cX12_house 107 = .ok (.iconst 0, 1) := by decide +kernel
theorem dX12_house_108 : decode cX12_house 108 = .ok (.iastore, 1) := by decide +kernel
theorem dX12_house_109 : decode cX12_house 109 = .ok (.iinc 1 1, 3) := by decide +kernel
theorem dX12_house_112 : decode cX12_house 112 = .ok (.goto (-32), 3) := by decide +kernel
theorem dX12_house_115 : decode cX12_house 115 = .ok (.iconst 0, 1) := by decide +kernel
theorem dX12_house_116 : decode cX12_house 116 = .ok (.istore_n 1, 1) := by decide +kernel
theorem dX12_house_117 : decode cX12_house 117 = .ok (.iload_n 1, 1) := by decide +kernel
theorem dX12_house_118 : decode cX12_house 118 = .ok (.bipush 14, 2) := by decide +kernel
theorem dX12_house_120 : decode cX12_house 120 = .ok (.if_icmp .ge 24, 3) := by decide +kernel
theorem dX12_house_123 : decode cX12_house 123 = .ok (.aload_n 0, 1) := by decide +kernel
theorem dX12_house_124 : decode cX12_house 124 = .ok (.getfield 40, 3) := by decide +kernel
theorem dX12_house_127 : decode cX12_house 127 = .ok (.iload_n 1, 1) := by decide +kernel
theorem dX12_house_128 : decode cX12_house 128 = .ok (.aload_n 0, 1) := by decide +kernel
theorem dX12_house_129 : decode cX12_house 129 = .ok (.getfield 40, 3) := by decide +kernel
theorem dX12_house_132 : decode cX12_house 132 = .ok (.bipush 14, 2) := by decide +kernel
theorem dX12_house_134 : decode cX12_house 134 = .ok (.iload_n 1, 1) := by decide +kernel
theorem dX12_house_135 : decode cX12_house 135 = .ok (.iadd, 1) := by decide +kernel
theorem dX12_house_136 : decode cX12_house 136 = .ok (.laload, 1) := by decide +kernel
theorem dX12_house_137 : decode cX12_house 137 = .ok (.lastore, 1) := by decide +kernel
theorem dX12_house_138 : decode cX12_house 138 = .ok (.iinc 1 1, 3) := by decide +kernel
theorem dX12_house_141 : decode cX12_house 141 = .ok (.goto (-24), 3) := by decide +kernel
theorem dX12_house_144 : decode cX12_house 144 = .ok (.aload_n 0, 1) := by decide +kernel
theorem dX12_house_145 : decode cX12_house 145 = .ok (.getfield 295, 3) := by decide +kernel
theorem dX12_house_148 : decode cX12_house 148 = .ok (.ireturn, 1) := by decide +kernel
theorem dX12_fault_0 : decode cX12_fault 0 = .ok (.aload_n 0, 1) := by decide +kernel
theorem dX12_fault_1 : decode cX12_fault 1 = .ok (.iconst 0, 1) := by decide +kernel
theorem dX12_fault_2 : decode cX12_fault 2 = .ok (.putfield 1, 3) := by decide +kernel
theorem dX12_fault_5 : decode cX12_fault 5 = .ok (.aload_n 0, 1) := by decide +kernel
theorem dX12_fault_6 : decode cX12_fault 6 = .ok (.getfield 247, 3) := by decide +kernel
theorem dX12_fault_9 : decode cX12_fault 9 = .ok (.ireturn, 1) := by decide +kernel
theorem dX12_isCell_0 : decode cX12_isCell 0 = .ok (.iload_n 1, 1) := by decide +kernel
theorem dX12_isCell_1 : decode cX12_isCell 1 = .ok (.iconst 0, 1) := by decide +kernel
theorem dX12_isCell_2 : decode cX12_isCell 2 = .ok (.aload_n 0, 1) := by decide +kernel
theorem dX12_isCell_3 : decode cX12_isCell 3 = .ok (.getfield 33, 3) := by decide +kernel
theorem dX12_isCell_6 : decode cX12_isCell 6 = .ok (.bipush 11, 2) := by decide +kernel
theorem dX12_isCell_8 : decode cX12_isCell 8 = .ok (.iaload, 1) := by decide +kernel
theorem dX12_isCell_9 : decode cX12_isCell 9 = .ok (.iconst 1, 1) := by decide +kernel
theorem dX12_isCell_10 : decode cX12_isCell 10 = .ok (.isub, 1) := by decide +kernel
theorem dX12_isCell_11 : decode cX12_isCell 11 = .ok (.invokestatic 262, 3) := by decide +kernel
theorem dX12_isCell_14 : decode cX12_isCell 14 = .ok (.ireturn, 1) := by decide +kernel
theorem dX12_cell_0 : decode cX12_cell 0 = .ok (.aload_n 0, 1) := by decide +kernel
theorem dX12_cell_1 : decode cX12_cell 1 = .ok (.iconst 0, 1) := by decide +kernel
theorem dX12_cell_2 : decode cX12_cell 2 = .ok (.putfield 1, 3) := by decide +kernel
theorem dX12_cell_5 : decode cX12_cell 5 = .ok (.aload_n 0, 1) := by decide +kernel
theorem dX12_cell_6 : decode cX12_cell 6 = .ok (.getfield 33, 3) := by decide +kernel
theorem dX12_cell_9 : decode cX12_cell 9 = .ok (.bipush 11, 2) := by decide +kernel
theorem dX12_cell_11 : decode cX12_cell 11 = .ok (.iaload, 1) := by decide +kernel
theorem dX12_cell_12 : decode cX12_cell 12 = .ok (.bipush 60, 2) := by decide +kernel
theorem dX12_cell_14 : decode cX12_cell 14 = .ok (.if_icmp .eq 19, 3) := by decide +kernel
theorem dX12_cell_17 : decode cX12_cell 17 = .ok (.iload_n 1, 1) := by decide +kernel
theorem dX12_cell_18 : decode cX12_cell 18 = .ok (.iconst 0, 1) := by decide +kernel
theorem dX12_cell_19 : decode cX12_cell 19 = .ok (.aload_n 0, 1) := by decide +kernel
theorem dX12_cell_20 : decode cX12_cell 20 = .ok (.getfield 33, 3) := by decide +kernel
theorem dX12_cell_23 : decode cX12_cell 23 = .ok (.iconst 1, 1) := by decide +kernel
theorem dX12_cell_24 : decode cX12_cell 24 = .ok (.iaload, 1) := by decide +kernel
theorem dX12_cell_25 : decode cX12_cell 25 = .ok (.iconst 1, 1) := by decide +kernel
theorem dX12_cell_26 : decode cX12_cell 26 = .ok (.isub, 1) := by decide +kernel
theorem dX12_cell_27 : decode cX12_cell 27 = .ok (.invokestatic 262, 3) := by decide +kernel
theorem dX12_cell_30 : decode cX12_cell 30 = .ok (.ifCond .ne 5, 3) := by decide +kernel
theorem dX12_cell_33 : decode cX12_cell 33 = .ok (.iconst (-1), 1) := by decide +kernel
theorem dX12_cell_34 : decode cX12_cell 34 = .ok (.ireturn, 1) := by decide +kernel
theorem dX12_cell_35 : decode cX12_cell 35 = .ok (.aload_n 0, 1) := by decide +kernel
theorem dX12_cell_36 : decode cX12_cell 36 = .ok (.getfield 33, 3) := by decide +kernel
theorem dX12_cell_39 : decode cX12_cell 39 = .ok (.bipush 17, 2) := by decide +kernel
theorem dX12_cell_41 : decode cX12_cell 41 = .ok (.aload_n 0, 1) := by decide +kernel
theorem dX12_cell_42 : decode cX12_cell 42 = .ok (.getfield 33, 3) := by decide +kernel
theorem dX12_cell_45 : decode cX12_cell 45 = .ok (.bipush 11, 2) := by decide +kernel
theorem dX12_cell_47 : decode cX12_cell 47 = .ok (.iaload, 1) := by decide +kernel
theorem dX12_cell_48 : decode cX12_cell 48 = .ok (.iadd, 1) := by decide +kernel
theorem dX12_cell_49 : decode cX12_cell 49 = .ok (.iload_n 1, 1) := by decide +kernel
theorem dX12_cell_50 : decode cX12_cell 50 = .ok (.iastore, 1) := by decide +kernel
theorem dX12_cell_51 : decode cX12_cell 51 = .ok (.aload_n 0, 1) := by decide +kernel
theorem dX12_cell_52 : decode cX12_cell 52 = .ok (.getfield 33, 3) := by decide +kernel
theorem dX12_cell_55 : decode cX12_cell 55 = .ok (.bipush 11, 2) := by decide +kernel
theorem dX12_cell_57 : decode cX12_cell 57 = .ok (.dup2, 1) := by decide +kernel
theorem dX12_cell_58 : decode cX12_cell 58 = .ok (.iaload, 1) := by decide +kernel
theorem dX12_cell_59 : decode cX12_cell 59 = .ok (.iconst 1, 1) := by decide +kernel
theorem dX12_cell_60 : decode cX12_cell 60 = .ok (.iadd, 1) := by decide +kernel
theorem dX12_cell_61 : decode cX12_cell 61 = .ok (.iastore, 1) := by decide +kernel
theorem dX12_cell_62 : decode cX12_cell 62 = .ok (.aload_n 0, 1) := by decide +kernel
theorem dX12_cell_63 : decode cX12_cell 63 = .ok (.getfield 33, 3) := by decide +kernel
theorem dX12_cell_66 : decode cX12_cell 66 = .ok (.bipush 11, 2) := by decide +kernel
theorem dX12_cell_68 : decode cX12_cell 68 = .ok (.iaload, 1) := by decide +kernel
theorem dX12_cell_69 : decode cX12_cell 69 = .ok (.iconst 1, 1) := by decide +kernel
theorem dX12_cell_70 : decode cX12_cell 70 = .ok (.isub, 1) := by decide +kernel
theorem dX12_cell_71 : decode cX12_cell 71 = .ok (.ireturn, 1) := by decide +kernel
theorem dX12_read_0 : decode cX12_read 0 = .ok (.aload_n 0, 1) := by decide +kernel
theorem dX12_read_1 : decode cX12_read 1 = .ok (.iconst 0, 1) := by decide +kernel
theorem dX12_read_2 : decode cX12_read 2 = .ok (.putfield 1, 3) := by decide +kernel
theorem dX12_read_5 : decode cX12_read 5 = .ok (.aload_n 0, 1) := by decide +kernel
theorem dX12_read_6 : decode cX12_read 6 = .ok (.getfield 33, 3) := by decide +kernel
theorem dX12_read_9 : decode cX12_read 9 = .ok (.bipush 12, 2) := by decide +kernel
theorem dX12_read_11 : decode cX12_read 11 = .ok (.iaload, 1) := by decide +kernel
theorem dX12_read_12 : decode cX12_read 12 = .ok (.sipush 200, 3) := by decide +kernel
theorem dX12_read_15 : decode cX12_read 15 = .ok (.if_icmp .eq 50, 3) := by decide +kernel
theorem dX12_read_18 : decode cX12_read 18 = .ok (.aload_n 0, 1) := by decide +kernel
theorem dX12_read_19 : decode cX12_read 19 = .ok (.iload_n 1, 1) := by decide +kernel
theorem dX12_read_20 : decode cX12_read 20 = .ok (.invokevirtual 304, 3) := by decide +kernel
theorem dX12_read_23 : decode cX12_read 23 = .ok (.ifCond .eq 42, 3) := by decide +kernel
theorem dX12_read_26 : decode cX12_read 26 = .ok (.iload_n 2, 1) := by decide +kernel
theorem dX12_read_27 : decode cX12_read 27 = .ok (.iconst 0, 1) := by decide +kernel
theorem dX12_read_28 : decode cX12_read 28 = .ok (.aload_n 0, 1) := by decide +kernel
theorem dX12_read_29 : decode cX12_read 29 = .ok (.getfield 33, 3) := by decide +kernel
theorem dX12_read_32 : decode cX12_read 32 = .ok (.iconst 0, 1) := by decide +kernel
theorem dX12_read_33 : decode cX12_read 33 = .ok (.iaload, 1) := by decide +kernel
theorem dX12_read_34 : decode cX12_read 34 = .ok (.iconst 1, 1) := by decide +kernel
theorem dX12_read_35 : decode cX12_read 35 = .ok (.isub, 1) := by decide +kernel
theorem dX12_read_36 : decode cX12_read 36 = .ok (.invokestatic 262, 3) := by decide +kernel
theorem dX12_read_39 : decode cX12_read 39 = .ok (.ifCond .eq 26, 3) := by decide +kernel
theorem dX12_read_42 : decode cX12_read 42 = .ok (.iload_n 3, 1) := by decide +kernel
theorem dX12_read_43 : decode cX12_read 43 = .ok (.iconst 1, 1) := by decide +kernel
theorem dX12_read_44 : decode cX12_read 44 = .ok (.sipush 400, 3) := by decide +kernel
theorem dX12_read_47 : decode cX12_read 47 = .ok (.invokestatic 262, 3) := by decide +kernel
theorem dX12_read_50 : decode cX12_read 50 = .ok (.ifCond .eq 15, 3) := by decide +kernel
theorem dX12_read_53 : decode cX12_read 53 = .ok (.iload 4, 2) := by decide +kernel
theorem dX12_read_55 : decode cX12_read 55 = .ok (.iconst 1, 1) := by decide +kernel
theorem dX12_read_56 : decode cX12_read 56 = .ok (.sipush 999, 3) := by decide +kernel
theorem dX12_read_59 : decode cX12_read 59 = .ok (.invokestatic 262, 3) := by decide +kernel
theorem dX12_read_62 : decode cX12_read 62 = .ok (.ifCond .ne 5, 3) := by decide +kernel
theorem dX12_read_65 : decode cX12_read 65 = .ok (.iconst (-1), 1) := by decide +kernel
theorem dX12_read_66 : decode cX12_read 66 = .ok (.ireturn, 1) := by decide +kernel
theorem dX12_read_67 : decode cX12_read 67 = .ok (.bipush 77, 2) := by decide +kernel
theorem dX12_read_69 : decode cX12_read 69 = .ok (.iconst 4, 1) := by decide +kernel
theorem dX12_read_70 : decode cX12_read 70 = .ok (.aload_n 0, 1) := by decide +kernel
theorem dX12_read_71 : decode cX12_read 71 = .ok (.getfield 33, 3) := by decide +kernel
theorem dX12_read_74 : decode cX12_read 74 = .ok (.bipush 12, 2) := by decide +kernel
theorem dX12_read_76 : decode cX12_read 76 = .ok (.iaload, 1) := by decide +kernel
theorem dX12_read_77 : decode cX12_read 77 = .ok (.imul, 1) := by decide +kernel
theorem dX12_read_78 : decode cX12_read 78 = .ok (.iadd, 1) := by decide +kernel
theorem dX12_read_79 : decode cX12_read 79 = .ok (.istore 5, 2) := by decide +kernel
theorem dX12_read_81 : decode cX12_read 81 = .ok (.aload_n 0, 1) := by decide +kernel
theorem dX12_read_82 : decode cX12_read 82 = .ok (.getfield 33, 3) := by decide +kernel
theorem dX12_read_85 : decode cX12_read 85 = .ok (.iload 5, 2) := by decide +kernel
theorem dX12_read_87 : decode cX12_read 87 = .ok (.iload_n 1, 1) := by decide +kernel
theorem dX12_read_88 : decode cX12_read 88 = .ok (.iastore, 1) := by decide +kernel
theorem dX12_read_89 : decode cX12_read 89 = .ok (.aload_n 0, 1) := by decide +kernel
theorem dX12_read_90 : decode cX12_read 90 = .ok (.getfield 33, 3) := by decide +kernel
theorem dX12_read_93 : decode cX12_read 93 = .ok (.iload 5, 2) := by decide +kernel
theorem dX12_read_95 : decode cX12_read 95 = .ok (.iconst 1, 1) := by decide +kernel
theorem dX12_read_96 : decode cX12_read 96 = .ok (.iadd, 1) := by decide +kernel
theorem dX12_read_97 : decode cX12_read 97 = .ok (.iload_n 2, 1) := by decide +kernel
theorem dX12_read_98 : decode cX12_read 98 = .ok (.iastore, 1) := by decide +kernel
theorem dX12_read_99 : decode cX12_read 99 = .ok (.aload_n 0, 1) := by decide +kernel
theorem dX12_read_100 : decode cX12_read 100 = .ok (.getfield 33, 3) := by decide +kernel
theorem dX12_read_103 : decode cX12_read 103 = .ok (.iload 5, 2) := by decide +kernel
theorem dX12_read_105 : decode cX12_read 105 = .ok (.iconst 2, 1) := by decide +kernel
theorem dX12_read_106 : decode cX12_read 106 = .ok (.iadd, 1) := by decide +kernel
theorem dX12_read_107 : decode cX12_read 107 = .ok (.iload_n 3, 1) := by decide +kernel
theorem dX12_read_108 : decode cX12_read 108 = .ok (.iastore, 1) := by decide +kernel
theorem dX12_read_109 : decode cX12_read 109 = .ok (.aload_n 0, 1) := by decide +kernel
theorem dX12_read_110 : decode cX12_read 110 = .ok (.getfield 33, 3) := by decide +kernel
theorem dX12_read_113 : decode cX12_read 113 = .ok (.iload 5, 2) := by decide +kernel
theorem dX12_read_115 : decode cX12_read 115 = .ok (.iconst 3, 1) := by decide +kernel
theorem dX12_read_116 : decode cX12_read 116 = .ok (.iadd, 1) := by decide +kernel
theorem dX12_read_117 : decode cX12_read 117 = .ok (.iload 4, 2) := by decide +kernel
theorem dX12_read_119 : decode cX12_read 119 = .ok (.iastore, 1) := by decide +kernel
theorem dX12_read_120 : decode cX12_read 120 = .ok (.aload_n 0, 1) := by decide +kernel
theorem dX12_read_121 : decode cX12_read 121 = .ok (.getfield 33, 3) := by decide +kernel
theorem dX12_read_124 : decode cX12_read 124 = .ok (.bipush 12, 2) := by decide +kernel
theorem dX12_read_126 : decode cX12_read 126 = .ok (.dup2, 1) := by decide +kernel
theorem dX12_read_127 : decode cX12_read 127 = .ok (.iaload, 1) := by decide +kernel
theorem dX12_read_128 : decode cX12_read 128 = .ok (.iconst 1, 1) := by decide +kernel
theorem dX12_read_129 : decode cX12_read 129 = .ok (.iadd, 1) := by decide +kernel
theorem dX12_read_130 : decode cX12_read 130 = .ok (.iastore, 1) := by decide +kernel
theorem dX12_read_131 : decode cX12_read 131 = .ok (.aload_n 0, 1) := by decide +kernel
theorem dX12_read_132 : decode cX12_read 132 = .ok (.getfield 33, 3) := by decide +kernel
theorem dX12_read_135 : decode cX12_read 135 = .ok (.bipush 12, 2) := by decide +kernel
theorem dX12_read_137 : decode cX12_read 137 = .ok (.iaload, 1) := by decide +kernel
theorem dX12_read_138 : decode cX12_read 138 = .ok (.iconst 1, 1) := by decide +kernel
theorem dX12_read_139 : decode cX12_read 139 = .ok (.isub, 1) := by decide +kernel
theorem dX12_read_140 : decode cX12_read 140 = .ok (.ireturn, 1) := by decide +kernel
theorem dX12_restAhead_0 : decode cX12_restAhead 0 = .ok (.iload_n 2, 1) := by decide +kernel
theorem dX12_restAhead_1 : decode cX12_restAhead 1 = .ok (.iconst 1, 1) := by decide +kernel
theorem dX12_restAhead_2 : decode cX12_restAhead 2 = .ok (.isub, 1) := by decide +kernel
theorem dX12_restAhead_3 : decode cX12_restAhead 3 = .ok (.istore_n 3, 1) := by decide +kernel
theorem dX12_restAhead_4 : decode cX12_restAhead 4 = .ok (.iload_n 3, 1) := by decide +kernel
theorem dX12_restAhead_5 : decode cX12_restAhead 5 = .ok (.ifCond .lt 27, 3) := by decide +kernel
theorem dX12_restAhead_8 : decode cX12_restAhead 8 = .ok (.aload_n 0, 1) := by decide +kernel
theorem dX12_restAhead_9 : decode cX12_restAhead 9 = .ok (.getfield 33, 3) := by decide +kernel
theorem dX12_restAhead_12 : decode cX12_restAhead 12 = .ok (.sipush 877, 3) := by decide +kernel
theorem dX12_restAhead_15 : decode cX12_restAhead 15 = .ok (.iconst 4, 1) := by decide +kernel
theorem dX12_restAhead_16 : decode cX12_restAhead 16 = .ok (.iload_n 3, 1) := by decide +kernel
theorem dX12_restAhead_17 : decode cX12_restAhead 17 = .ok (.imul, 1) := by decide +kernel
theorem dX12_restAhead_18 : decode cX12_restAhead 18 = .ok (.iadd, 1) := by decide +kernel
theorem dX12_restAhead_19 : decode cX12_restAhead 19 = .ok (.iaload, 1) := by decide +kernel
theorem dX12_restAhead_20 : decode cX12_restAhead 20 = .ok (.iload_n 1, 1) := by decide +kernel
theorem dX12_restAhead_21 : decode cX12_restAhead 21 = .ok (.if_icmp .ne 5, 3) := by decide +kernel
theorem dX12_restAhead_24 : decode cX12_restAhead 24 = .ok (.iload_n 3, 1) := by decide +kernel
theorem dX12_restAhead_25 : decode cX12_restAhead 25 = .ok (.ireturn, 1) := by decide +kernel
theorem dX12_restAhead_26 : decode cX12_restAhead 26 = .ok (.iinc 3 (-1), 3) := by decide +kernel
theorem dX12_restAhead_29 : decode cX12_restAhead 29 = .ok (.goto (-25), 3) := by decide +kernel
theorem dX12_restAhead_32 : decode cX12_restAhead 32 = .ok (.iconst (-1), 1) := by decide +kernel
theorem dX12_restAhead_33 : decode cX12_restAhead 33 = .ok (.ireturn, 1) := by decide +kernel
theorem dX12_rest_0 : decode cX12_rest 0 = .ok (.aload_n 0, 1) := by decide +kernel
theorem dX12_rest_1 : decode cX12_rest 1 = .ok (.iconst 0, 1) := by decide +kernel
theorem dX12_rest_2 : decode cX12_rest 2 = .ok (.putfield 1, 3) := by decide +kernel
theorem dX12_rest_5 : decode cX12_rest 5 = .ok (.aload_n 0, 1) := by decide +kernel
theorem dX12_rest_6 : decode cX12_rest 6 = .ok (.getfield 33, 3) := by decide +kernel
theorem dX12_rest_9 : decode cX12_rest 9 = .ok (.bipush 13, 2) := by decide +kernel
theorem dX12_rest_11 : decode cX12_rest 11 = .ok (.iaload, 1) := by decide +kernel
theorem dX12_rest_12 : decode cX12_rest 12 = .ok (.sipush 200, 3) := by decide +kernel
theorem dX12_rest_15 : decode cX12_rest 15 = .ok (.if_icmp .eq 43, 3) := by decide +kernel
theorem dX12_rest_18 : decode cX12_rest 18 = .ok (.aload_n 0, 1) := by decide +kernel
theorem dX12_rest_19 : decode cX12_rest 19 = .ok (.iload_n 1, 1) := by decide +kernel
theorem dX12_rest_20 : decode cX12_rest 20 = .ok (.invokevirtual 304, 3) := by decide +kernel
theorem dX12_rest_23 : decode cX12_rest 23 = .ok (.ifCond .eq 35, 3) := by decide +kernel
theorem dX12_rest_26 : decode cX12_rest 26 = .ok (.iload_n 2, 1) := by decide +kernel
theorem dX12_rest_27 : decode cX12_rest 27 = .ok (.iconst 0, 1) := by decide +kernel
theorem dX12_rest_28 : decode cX12_rest 28 = .ok (.bipush 99, 2) := by decide +kernel
theorem dX12_rest_30 : decode cX12_rest 30 = .ok (.invokestatic 262, 3) := by decide +kernel
theorem dX12_rest_33 : decode cX12_rest 33 = .ok (.ifCond .eq 25, 3) := by decide +kernel
theorem dX12_rest_36 : decode cX12_rest 36 = .ok (.iload_n 3, 1) := by decide +kernel
theorem dX12_rest_37 : decode cX12_rest 37 = .ok (.iconst 0, 1) := by decide +kernel
theorem dX12_rest_38 : decode cX12_rest 38 = .ok (.sipush 4200, 3) := by decide +kernel
theorem dX12_rest_41 : decode cX12_rest 41 = .ok (.invokestatic 262, 3) := by decide +kernel
theorem dX12_rest_44 : decode cX12_rest 44 = .ok (.ifCond .eq 14, 3) := by decide +kernel
theorem dX12_rest_47 : decode cX12_rest 47 = .ok (.iload 4, 2) := by decide +kernel
theorem dX12_rest_49 : decode cX12_rest 49 = .ok (.iconst 0, 1) := by decide +kernel
theorem dX12_rest_50 : decode cX12_rest 50 = .ok (.bipush 99, 2) := by decide +kernel
theorem dX12_rest_52 : decode cX12_rest 52 = .ok (.invokestatic 262, 3) := by decide +kernel
theorem dX12_rest_55 : decode cX12_rest 55 = .ok (.ifCond .ne 5, 3) := by decide +kernel
theorem dX12_rest_58 : decode cX12_rest 58 = .ok (.iconst (-1), 1) := by decide +kernel
theorem dX12_rest_59 : decode cX12_rest 59 = .ok (.ireturn, 1) := by decide +kernel
theorem dX12_rest_60 : decode cX12_rest 60 = .ok (.aload_n 0, 1) := by decide +kernel
theorem dX12_rest_61 : decode cX12_rest 61 = .ok (.iload_n 1, 1) := by decide +kernel
theorem dX12_rest_62 : decode cX12_rest 62 = .ok (.aload_n 0, 1) := by decide +kernel
theorem dX12_rest_63 : decode cX12_rest 63 = .ok (.getfield 33, 3) := by decide +kernel
theorem dX12_rest_66 : decode cX12_rest 66 = .ok (.bipush 13, 2) := by decide +kernel
theorem dX12_rest_68 : decode cX12_rest 68 = .ok (.iaload, 1) := by decide +kernel
theorem dX12_rest_69 : decode cX12_rest 69 = .ok (.invokevirtual 307, 3) := by decide +kernel
theorem dX12_rest_72 : decode cX12_rest 72 = .ok (.istore 5, 2) := by decide +kernel
theorem dX12_rest_74 : decode cX12_rest 74 = .ok (.iload 5, 2) := by decide +kernel
theorem dX12_rest_76 : decode cX12_rest 76 = .ok (.ifCond .lt 24, 3) := by decide +kernel
theorem dX12_rest_79 : decode cX12_rest 79 = .ok (.iload_n 2, 1) := by decide +kernel
theorem dX12_rest_80 : decode cX12_rest 80 = .ok (.aload_n 0, 1) := by decide +kernel
theorem dX12_rest_81 : decode cX12_rest 81 = .ok (.getfield 33, 3) := by decide +kernel
theorem dX12_rest_84 : decode cX12_rest 84 = .ok (.sipush 877, 3) := by decide +kernel
theorem dX12_rest_87 : decode cX12_rest 87 = .ok (.iconst 4, 1) := by decide +kernel
theorem dX12_rest_88 : decode cX12_rest 88 = .ok (.iload 5, 2) := by decide +kernel
theorem dX12_rest_90 : decode cX12_rest 90 = .ok (.imul, 1) := by decide +kernel
theorem dX12_rest_91 : decode cX12_rest 91 = .ok (.iadd, 1) := by decide +kernel
theorem dX12_rest_92 : decode cX12_rest 92 = .ok (.iconst 1, 1) := by decide +kernel
theorem dX12_rest_93 : decode cX12_rest 93 = .ok (.iadd, 1) := by decide +kernel
theorem dX12_rest_94 : decode cX12_rest 94 = .ok (.iaload, 1) := by decide +kernel
theorem dX12_rest_95 : decode cX12_rest 95 = .ok (.if_icmp .gt 5, 3) := by decide +kernel
theorem dX12_rest_98 : decode cX12_rest 98 = .ok (.iconst (-1), 1) := by decide +kernel
theorem dX12_rest_99 : decode cX12_rest 99 = .ok (.ireturn, 1) := by decide +kernel
theorem dX12_rest_100 : decode cX12_rest 100 = .ok (.sipush 877, 3) := by decide +kernel
theorem dX12_rest_103 : decode cX12_rest 103 = .ok (.iconst 4, 1) := by decide +kernel
theorem dX12_rest_104 : decode cX12_rest 104 = .ok (.aload_n 0, 1) := by decide +kernel
theorem dX12_rest_105 : decode cX12_rest 105 = .ok (.getfield 33, 3) := by decide +kernel
theorem dX12_rest_108 : decode cX12_rest 108 = .ok (.bipush 13, 2) := by decide +kernel
theorem dX12_rest_110 : decode cX12_rest 110 = .ok (.iaload, 1) := by decide +kernel
theorem dX12_rest_111 : decode cX12_rest 111 = .ok (.imul, 1) := by decide +kernel
theorem dX12_rest_112 : decode cX12_rest 112 = .ok (.iadd, 1) := by decide +kernel
theorem dX12_rest_113 : decode cX12_rest 113 = .ok (.istore 6, 2) := by decide +kernel
theorem dX12_rest_115 : decode cX12_rest 115 = .ok (.aload_n 0, 1) := by decide +kernel
theorem dX12_rest_116 : decode cX12_rest 116 = .ok (.getfield 33, 3) := by decide +kernel
theorem dX12_rest_119 : decode cX12_rest 119 = .ok (.iload 6, 2) := by decide +kernel
theorem dX12_rest_121 : decode cX12_rest 121 = .ok (.iload_n 1, 1) := by decide +kernel
theorem dX12_rest_122 : decode cX12_rest 122 = .ok (.iastore, 1) := by decide +kernel
theorem dX12_rest_123 : decode cX12_rest 123 = .ok (.aload_n 0, 1) := by decide +kernel
theorem dX12_rest_124 : decode cX12_rest 124 = .ok (.getfield 33, 3) := by decide +kernel
theorem dX12_rest_127 : decode cX12_rest 127 = .ok (.iload 6, 2) := by decide +kernel
theorem dX12_rest_129 : decode cX12_rest 129 = .ok (.iconst 1, 1) := by decide +kernel
theorem dX12_rest_130 : decode cX12_rest 130 = .ok (.iadd, 1) := by decide +kernel
theorem dX12_rest_131 : decode cX12_rest 131 = .ok (.iload_n 2, 1) := by decide +kernel
theorem dX12_rest_132 : decode cX12_rest 132 = .ok (.iastore, 1) := by decide +kernel
theorem dX12_rest_133 : decode cX12_rest 133 = .ok (.aload_n 0, 1) := by decide +kernel
theorem dX12_rest_134 : decode cX12_rest 134 = .ok (.getfield 33, 3) := by decide +kernel
theorem dX12_rest_137 : decode cX12_rest 137 = .ok (.iload 6, 2) := by decide +kernel
theorem dX12_rest_139 : decode cX12_rest 139 = .ok (.iconst 2, 1) := by decide +kernel
theorem dX12_rest_140 : decode cX12_rest 140 = .ok (.iadd, 1) := by decide +kernel
theorem dX12_rest_141 : decode cX12_rest 141 = .ok (.iload_n 3, 1) := by decide +kernel
theorem dX12_rest_142 : decode cX12_rest 142 = .ok (.iastore, 1) := by decide +kernel
theorem dX12_rest_143 : decode cX12_rest 143 = .ok (.aload_n 0, 1) := by decide +kernel
theorem dX12_rest_144 : decode cX12_rest 144 = .ok (.getfield 33, 3) := by decide +kernel
theorem dX12_rest_147 : decode cX12_rest 147 = .ok (.iload 6, 2) := by decide +kernel
theorem dX12_rest_149 : decode cX12_rest 149 = .ok (.iconst 3, 1) := by decide +kernel
theorem dX12_rest_150 : decode cX12_rest 150 = .ok (.iadd, 1) := by decide +kernel
theorem dX12_rest_151 : decode cX12_rest 151 = .ok (.iload 4, 2) := by decide +kernel
theorem dX12_rest_153 : decode cX12_rest 153 = .ok (.iastore, 1) := by decide +kernel
theorem dX12_rest_154 : decode cX12_rest 154 = .ok (.aload_n 0, 1) := by decide +kernel
theorem dX12_rest_155 : decode cX12_rest 155 = .ok (.getfield 33, 3) := by decide +kernel
theorem dX12_rest_158 : decode cX12_rest 158 = .ok (.bipush 13, 2) := by decide +kernel
theorem dX12_rest_160 : decode cX12_rest 160 = .ok (.dup2, 1) := by decide +kernel
theorem dX12_rest_161 : decode cX12_rest 161 = .ok (.iaload, 1) := by decide +kernel
theorem dX12_rest_162 : decode cX12_rest 162 = .ok (.iconst 1, 1) := by decide +kernel
theorem dX12_rest_163 : decode cX12_rest 163 = .ok (.iadd, 1) := by decide +kernel
theorem dX12_rest_164 : decode cX12_rest 164 = .ok (.iastore, 1) := by decide +kernel
theorem dX12_rest_165 : decode cX12_rest 165 = .ok (.aload_n 0, 1) := by decide +kernel
theorem dX12_rest_166 : decode cX12_rest 166 = .ok (.getfield 33, 3) := by decide +kernel
theorem dX12_rest_169 : decode cX12_rest 169 = .ok (.bipush 13, 2) := by decide +kernel
theorem dX12_rest_171 : decode cX12_rest 171 = .ok (.iaload, 1) := by decide +kernel
theorem dX12_rest_172 : decode cX12_rest 172 = .ok (.iconst 1, 1) := by decide +kernel
theorem dX12_rest_173 : decode cX12_rest 173 = .ok (.isub, 1) := by decide +kernel
theorem dX12_rest_174 : decode cX12_rest 174 = .ok (.ireturn, 1) := by decide +kernel
theorem dX12_trueOf_0 : decode cX12_trueOf 0 = .ok (.iconst 0, 1) := by decide +kernel
theorem dX12_trueOf_1 : decode cX12_trueOf 1 = .ok (.istore_n 2, 1) := by decide +kernel
theorem dX12_trueOf_2 : decode cX12_trueOf 2 = .ok (.iconst 0, 1) := by decide +kernel
theorem dX12_trueOf_3 : decode cX12_trueOf 3 = .ok (.istore_n 3, 1) := by decide +kernel
theorem dX12_trueOf_4 : decode cX12_trueOf 4 = .ok (.iconst 0, 1) := by decide +kernel
theorem dX12_trueOf_5 : decode cX12_trueOf 5 = .ok (.istore 4, 2) := by decide +kernel
theorem dX12_trueOf_7 : decode cX12_trueOf 7 = .ok (.iconst 0, 1) := by decide +kernel
theorem dX12_trueOf_8 : decode cX12_trueOf 8 = .ok (.istore 5, 2) := by decide +kernel
theorem dX12_trueOf_10 : decode cX12_trueOf 10 = .ok (.iconst 0, 1) := by decide +kernel
theorem dX12_trueOf_11 : decode cX12_trueOf 11 = .ok (.istore 6, 2) := by decide +kernel
theorem dX12_trueOf_13 : decode cX12_trueOf 13 = .ok (.iconst 0, 1) := by decide +kernel
theorem dX12_trueOf_14 : decode cX12_trueOf 14 = .ok (.istore 7, 2) := by decide +kernel
theorem dX12_trueOf_16 : decode cX12_trueOf 16 = .ok (.iload 7, 2) := by decide +kernel
theorem dX12_trueOf_18 : decode cX12_trueOf 18 = .ok (.aload_n 0, 1) := by decide +kernel
theorem dX12_trueOf_19 : decode cX12_trueOf 19 = .ok (.getfield 33, 3) := by decide +kernel
theorem dX12_trueOf_22 : decode cX12_trueOf 22 = .ok (.bipush 12, 2) := by decide +kernel
theorem dX12_trueOf_24 : decode cX12_trueOf 24 = .ok (.iaload, 1) := by decide +kernel
theorem dX12_trueOf_25 : decode cX12_trueOf 25 = .ok (.if_icmp .ge 142, 3) := by decide +kernel
theorem dX12_trueOf_28 : decode cX12_trueOf 28 = .ok (.bipush 77, 2) := by decide +kernel
theorem dX12_trueOf_30 : decode cX12_trueOf 30 = .ok (.iconst 4, 1) := by decide +kernel
theorem dX12_trueOf_31 : decode cX12_trueOf 31 = .ok (.iload 7, 2) := by decide +kernel
theorem dX12_trueOf_33 : decode cX12_trueOf 33 = .ok (.imul, 1) := by decide +kernel
theorem dX12_trueOf_34 : decode cX12_trueOf 34 = .ok (.iadd, 1) := by decide +kernel
theorem dX12_trueOf_35 : decode cX12_trueOf 35 = .ok (.istore 8, 2) := by decide +kernel
theorem dX12_trueOf_37 : decode cX12_trueOf 37 = .ok (.aload_n 0, 1) := by decide +kernel
theorem dX12_trueOf_38 : decode cX12_trueOf 38 = .ok (.getfield 33, 3) := by decide +kernel
theorem dX12_trueOf_41 : decode cX12_trueOf 41 = .ok (.iload 8, 2) := by decide +kernel
theorem dX12_trueOf_43 : decode cX12_trueOf 43 = .ok (.iconst 1, 1) := by decide +kernel
theorem dX12_trueOf_44 : decode cX12_trueOf 44 = .ok (.iadd, 1) := by decide +kernel
theorem dX12_trueOf_45 : decode cX12_trueOf 45 = .ok (.iaload, 1) := by decide +kernel
theorem dX12_trueOf_46 : decode cX12_trueOf 46 = .ok (.istore 9, 2) := by decide +kernel
theorem dX12_trueOf_48 : decode cX12_trueOf 48 = .ok (.aload_n 0, 1) := by decide +kernel
theorem dX12_trueOf_49 : decode cX12_trueOf 49 = .ok (.getfield 33, 3) := by decide +kernel
theorem dX12_trueOf_52 : decode cX12_trueOf 52 = .ok (.iload 8, 2) := by decide +kernel
theorem dX12_trueOf_54 : decode cX12_trueOf 54 = .ok (.iaload, 1) := by decide +kernel
theorem dX12_trueOf_55 : decode cX12_trueOf 55 = .ok (.iload_n 1, 1) := by decide +kernel
theorem dX12_trueOf_56 : decode cX12_trueOf 56 = .ok (.if_icmp .ne 105, 3) := by decide +kernel
theorem dX12_trueOf_59 : decode cX12_trueOf 59 = .ok (.aload_n 0, 1) := by decide +kernel
theorem dX12_trueOf_60 : decode cX12_trueOf 60 = .ok (.getfield 47, 3) := by decide +kernel
theorem dX12_trueOf_63 : decode cX12_trueOf 63 = .ok (.iload 9, 2) := by decide +kernel
theorem dX12_trueOf_65 : decode cX12_trueOf 65 = .ok (.baload, 1) := by decide +kernel
theorem dX12_trueOf_66 : decode cX12_trueOf 66 = .ok (.ifCond .ne 6, 3) := by decide +kernel
theorem dX12_trueOf_69 : decode cX12_trueOf 69 = .ok (.goto 92, 3) := by decide +kernel
theorem dX12_trueOf_72 : decode cX12_trueOf 72 = .ok (.aload_n 0, 1) := by decide +kernel
theorem dX12_trueOf_73 : decode cX12_trueOf 73 = .ok (.getfield 33, 3) := by decide +kernel
theorem dX12_trueOf_76 : decode cX12_trueOf 76 = .ok (.iload 8, 2) := by decide +kernel
theorem dX12_trueOf_78 : decode cX12_trueOf 78 = .ok (.iconst 2, 1) := by decide +kernel
theorem dX12_trueOf_79 : decode cX12_trueOf 79 = .ok (.iadd, 1) := by decide +kernel
theorem dX12_trueOf_80 : decode cX12_trueOf 80 = .ok (.iaload, 1) := by decide +kernel
theorem dX12_trueOf_81 : decode cX12_trueOf 81 = .ok (.aload_n 0, 1) := by decide +kernel
theorem dX12_trueOf_82 : decode cX12_trueOf 82 = .ok (.getfield 51, 3) := by decide +kernel
theorem dX12_trueOf_85 : decode cX12_trueOf 85 = .ok (.iload 9, 2) := by decide +kernel
theorem dX12_trueOf_87 : decode cX12_trueOf 87 = .ok (.iaload, 1) := by decide +kernel
theorem dX12_trueOf_88 : decode cX12_trueOf 88 = .ok (.isub, 1) := by decide +kernel
theorem dX12_trueOf_89 : decode cX12_trueOf 89 = .ok (.istore 10, 2) := by decide +kernel
theorem dX12_trueOf_91 : decode cX12_trueOf 91 = .ok (.iload 4, 2) := by decide +kernel
theorem dX12_trueOf_93 : decode cX12_trueOf 93 = .ok (.ifCond .eq 10, 3) := by decide +kernel
theorem dX12_trueOf_96 : decode cX12_trueOf 96 = .ok (.iload 10, 2) := by decide +kernel
theorem dX12_trueOf_98 : decode cX12_trueOf 98 = .ok (.iload 5, 2) := by decide +kernel
theorem dX12_trueOf_100 : decode cX12_trueOf 100 = .ok (.if_icmp .ge 8, 3) := by decide +kernel
theorem dX12_trueOf_103 : decode cX12_trueOf 103 = .ok (.iload 10, 2) := by decide +kernel
theorem dX12_trueOf_105 : decode cX12_trueOf 105 = .ok (.goto 5, 3) := by decide +kernel
theorem dX12_trueOf_108 : decode cX12_trueOf 108 = .ok (.iload 5, 2) := by decide +kernel
theorem dX12_trueOf_110 : decode cX12_trueOf 110 = .ok (.istore 5, 2) := by decide +kernel
theorem dX12_trueOf_112 : decode cX12_trueOf 112 = .ok (.iload 4, 2) := by decide +kernel
theorem dX12_trueOf_114 : decode cX12_trueOf 114 = .ok (.ifCond .eq 10, 3) := by decide +kernel
theorem dX12_trueOf_117 : decode cX12_trueOf 117 = .ok (.iload 10, 2) := by decide +kernel
theorem dX12_trueOf_119 : decode cX12_trueOf 119 = .ok (.iload 6, 2) := by decide +kernel
theorem dX12_trueOf_121 : decode cX12_trueOf 121 = .ok (.if_icmp .le 8, 3) := by decide +kernel
theorem dX12_trueOf_124 : decode cX12_trueOf 124 = .ok (.iload 10, 2) := by decide +kernel
theorem dX12_trueOf_126 : decode cX12_trueOf 126 = .ok (.goto 5, 3) := by decide +kernel
theorem dX12_trueOf_129 : decode cX12_trueOf 129 = .ok (.iload 6, 2) := by decide +kernel
theorem dX12_trueOf_131 : decode cX12_trueOf 131 = .ok (.istore 6, 2) := by decide +kernel
theorem dX12_trueOf_133 : decode cX12_trueOf 133 = .ok (.iload_n 2, 1) := by decide +kernel
theorem dX12_trueOf_134 : decode cX12_trueOf 134 = .ok (.iload 10, 2) := by decide +kernel
theorem dX12_trueOf_136 : decode cX12_trueOf 136 = .ok (.iadd, 1) := by decide +kernel
theorem dX12_trueOf_137 : decode cX12_trueOf 137 = .ok (.istore_n 2, 1) := by decide +kernel
theorem dX12_trueOf_138 : decode cX12_trueOf 138 = .ok (.iload_n 3, 1) := by decide +kernel
theorem dX12_trueOf_139 : decode cX12_trueOf 139 = .ok (.aload_n 0, 1) := by decide +kernel
theorem dX12_trueOf_140 : decode cX12_trueOf 140 = .ok (.getfield 33, 3) := by decide +kernel
theorem dX12_trueOf_143 : decode cX12_trueOf 143 = .ok (.iload 8, 2) := by decide +kernel
theorem dX12_trueOf_145 : decode cX12_trueOf 145 = .ok (.iconst 3, 1) := by decide +kernel
theorem dX12_trueOf_146 : decode cX12_trueOf 146 = .ok (.iadd, 1) := by decide +kernel
theorem dX12_trueOf_147 : decode cX12_trueOf 147 = .ok (.iaload, 1) := by decide +kernel
theorem dX12_trueOf_148 : decode cX12_trueOf 148 = .ok (.aload_n 0, 1) := by decide +kernel
theorem dX12_trueOf_149 : decode cX12_trueOf 149 = .ok (.getfield 54, 3) := by decide +kernel
theorem dX12_trueOf_152 : decode cX12_trueOf 152 = .ok (.iload 9, 2) := by decide +kernel
theorem dX12_trueOf_154 : decode cX12_trueOf 154 = .ok (.iaload, 1) := by decide +kernel
theorem dX12_trueOf_155 : decode cX12_trueOf 155 = .ok (.isub, 1) := by decide +kernel
theorem dX12_trueOf_156 : decode cX12_trueOf 156 = .ok (.iadd, 1) := by decide +kernel
theorem dX12_trueOf_157 : decode cX12_trueOf 157 = .ok (.istore_n 3, 1) := by decide +kernel
theorem dX12_trueOf_158 : decode cX12_trueOf 158 = .ok (.iinc 4 1, 3) := by decide +kernel
theorem dX12_trueOf_161 : decode cX12_trueOf 161 = .ok (.iinc 7 1, 3) := by decide +kernel
theorem dX12_trueOf_164 : decode cX12_trueOf 164 = .ok (.goto (-148), 3) := by decide +kernel
theorem dX12_trueOf_167 : decode cX12_trueOf 167 = .ok (.aload_n 0, 1) := by decide +kernel
theorem dX12_trueOf_168 : decode cX12_trueOf 168 = .ok (.getfield 66, 3) := by decide +kernel
theorem dX12_trueOf_171 : decode cX12_trueOf 171 = .ok (.iload_n 1, 1) := by decide +kernel
theorem dX12_trueOf_172 : decode cX12_trueOf 172 = .ok (.iload 4, 2) := by decide +kernel
theorem dX12_trueOf_174 : decode cX12_trueOf 174 = .ok (.iastore, 1) := by decide +kernel
theorem dX12_trueOf_175 : decode cX12_trueOf 175 = .ok (.aload_n 0, 1) := by decide +kernel
theorem dX12_trueOf_176 : decode cX12_trueOf 176 = .ok (.getfield 63, 3) := by decide +kernel
theorem dX12_trueOf_179 : decode cX12_trueOf 179 = .ok (.iload_n 1, 1) := by decide +kernel
theorem dX12_trueOf_180 : decode cX12_trueOf 180 = .ok (.iload 4, 2) := by decide +kernel
theorem dX12_trueOf_182 : decode cX12_trueOf 182 = .ok (.ifCond .ne 7, 3) := by decide +kernel
theorem dX12_trueOf_185 : decode cX12_trueOf 185 = .ok (.iconst (-1), 1) := by decide +kernel
theorem dX12_trueOf_186 : decode cX12_trueOf 186 = .ok (.goto 8, 3) := by decide +kernel
theorem dX12_trueOf_189 : decode cX12_trueOf 189 = .ok (.iload 6, 2) := by decide +kernel
theorem dX12_trueOf_191 : decode cX12_trueOf 191 = .ok (.iload 5, 2) := by decide +kernel
theorem dX12_trueOf_193 : decode cX12_trueOf 193 = .ok (.isub, 1) := by decide +kernel
theorem dX12_trueOf_194 : decode cX12_trueOf 194 = .ok (.iastore, 1) := by decide +kernel
theorem dX12_trueOf_195 : decode cX12_trueOf 195 = .ok (.aload_n 0, 1) := by decide +kernel
theorem dX12_trueOf_196 : decode cX12_trueOf 196 = .ok (.getfield 57, 3) := by decide +kernel
theorem dX12_trueOf_199 : decode cX12_trueOf 199 = .ok (.iload_n 1, 1) := by decide +kernel
theorem dX12_trueOf_200 : decode cX12_trueOf 200 = .ok (.iload 4, 2) := by decide +kernel
theorem dX12_trueOf_202 : decode cX12_trueOf 202 = .ok (.ifCond .ne 7, 3) := by decide +kernel
theorem dX12_trueOf_205 : decode cX12_trueOf 205 = .ok (.iconst (-1), 1) := by decide +kernel
theorem dX12_trueOf_206 : decode cX12_trueOf 206 = .ok (.goto 19, 3) := by decide +kernel
theorem dX12_trueOf_209 : decode cX12_trueOf 209 = .ok (.iload_n 2, 1) := by decide +kernel
theorem dX12_trueOf_210 : decode cX12_trueOf 210 = .ok (.iload 4, 2) := by decide +kernel
theorem dX12_trueOf_212 : decode cX12_trueOf 212 = .ok (.idiv, 1) := by decide +kernel
theorem dX12_trueOf_213 : decode cX12_trueOf 213 = .ok (.iconst 1, 1) := by decide +kernel
theorem dX12_trueOf_214 : decode cX12_trueOf 214 = .ok (.if_icmp .ge 7, 3) := by decide +kernel
theorem dX12_trueOf_217 : decode cX12_trueOf 217 = .ok (.iconst 1, 1) := by decide +kernel
theorem dX12_trueOf_218 : decode cX12_trueOf 218 = .ok (.goto 7, 3) := by decide +kernel
theorem dX12_trueOf_221 : decode cX12_trueOf 221 = .ok (.iload_n 2, 1) := by decide +kernel
theorem dX12_trueOf_222 : decode cX12_trueOf 222 = .ok (.iload 4, 2) := by decide +kernel
theorem dX12_trueOf_224 : decode cX12_trueOf 224 = .ok (.idiv, 1) := by decide +kernel
theorem dX12_trueOf_225 : decode cX12_trueOf 225 = .ok (.iastore, 1) := by decide +kernel
theorem dX12_trueOf_226 : decode cX12_trueOf 226 = .ok (.aload_n 0, 1) := by decide +kernel
theorem dX12_trueOf_227 : decode cX12_trueOf 227 = .ok (.getfield 60, 3) := by decide +kernel
theorem dX12_trueOf_230 : decode cX12_trueOf 230 = .ok (.iload_n 1, 1) := by decide +kernel
theorem dX12_trueOf_231 : decode cX12_trueOf 231 = .ok (.iload 4, 2) := by decide +kernel
theorem dX12_trueOf_233 : decode cX12_trueOf 233 = .ok (.ifCond .ne 7, 3) := by decide +kernel
theorem dX12_trueOf_236 : decode cX12_trueOf 236 = .ok (.iconst (-1), 1) := by decide +kernel
theorem dX12_trueOf_237 : decode cX12_trueOf 237 = .ok (.goto 19, 3) := by decide +kernel
theorem dX12_trueOf_240 : decode cX12_trueOf 240 = .ok (.iload_n 3, 1) := by decide +kernel
theorem dX12_trueOf_241 : decode cX12_trueOf 241 = .ok (.iload 4, 2) := by decide +kernel
theorem dX12_trueOf_243 : decode cX12_trueOf 243 = .ok (.idiv, 1) := by decide +kernel
theorem dX12_trueOf_244 : decode cX12_trueOf 244 = .ok (.iconst 1, 1) := by decide +kernel
theorem dX12_trueOf_245 : decode cX12_trueOf 245 = .ok (.if_icmp .ge 7, 3) := by decide +kernel
theorem dX12_trueOf_248 : decode cX12_trueOf 248 = .ok (.iconst 1, 1) := by decide +kernel
theorem dX12_trueOf_249 : decode cX12_trueOf 249 = .ok (.goto 7, 3) := by decide +kernel
theorem dX12_trueOf_252 : decode cX12_trueOf 252 = .ok (.iload_n 3, 1) := by decide +kernel
theorem dX12_trueOf_253 : decode cX12_trueOf 253 = .ok (.iload 4, 2) := by decide +kernel
theorem dX12_trueOf_255 : decode cX12_trueOf 255 = .ok (.idiv, 1) := by decide +kernel
theorem dX12_trueOf_256 : decode cX12_trueOf 256 = .ok (.iastore, 1) := by decide +kernel
theorem dX12_trueOf_257 : decode cX12_trueOf 257 = .ok (.return_, 1) := by decide +kernel
theorem dX12_firstOn_0 : decode cX12_firstOn 0 = .ok (.iconst 0, 1) := by decide +kernel
theorem dX12_firstOn_1 : decode cX12_firstOn 1 = .ok (.istore_n 3, 1) := by decide +kernel
theorem dX12_firstOn_2 : decode cX12_firstOn 2 = .ok (.iload_n 3, 1) := by decide +kernel
theorem dX12_firstOn_3 : decode cX12_firstOn 3 = .ok (.aload_n 0, 1) := by decide +kernel
theorem dX12_firstOn_4 : decode cX12_firstOn 4 = .ok (.getfield 33, 3) := by decide +kernel
theorem dX12_firstOn_7 : decode cX12_firstOn 7 = .ok (.bipush 12, 2) := by decide +kernel
theorem dX12_firstOn_9 : decode cX12_firstOn 9 = .ok (.iaload, 1) := by decide +kernel
theorem dX12_firstOn_10 : decode cX12_firstOn 10 = .ok (.if_icmp .ge 43, 3) := by decide +kernel
theorem dX12_firstOn_13 : decode cX12_firstOn 13 = .ok (.aload_n 0, 1) := by decide +kernel
theorem dX12_firstOn_14 : decode cX12_firstOn 14 = .ok (.getfield 33, 3) := by decide +kernel
theorem dX12_firstOn_17 : decode cX12_firstOn 17 = .ok (.bipush 77, 2) := by decide +kernel
theorem dX12_firstOn_19 : decode cX12_firstOn 19 = .ok (.iconst 4, 1) := by decide +kernel
theorem dX12_firstOn_20 : decode cX12_firstOn 20 = .ok (.iload_n 3, 1) := by decide +kernel
theorem dX12_firstOn_21 : decode cX12_firstOn 21 = .ok (.imul, 1) := by decide +kernel
theorem dX12_firstOn_22 : decode cX12_firstOn 22 = .ok (.iadd, 1) := by decide +kernel
theorem dX12_firstOn_23 : decode cX12_firstOn 23 = .ok (.iaload, 1) := by decide +kernel
theorem dX12_firstOn_24 : decode cX12_firstOn 24 = .ok (.iload_n 1, 1) := by decide +kernel
theorem dX12_firstOn_25 : decode cX12_firstOn 25 = .ok (.if_icmp .ne 22, 3) := by decide +kernel
theorem dX12_firstOn_28 : decode cX12_firstOn 28 = .ok (.aload_n 0, 1) := by decide +kernel
theorem dX12_firstOn_29 : decode cX12_firstOn 29 = .ok (.getfield 33, 3) := by decide +kernel
theorem dX12_firstOn_32 : decode cX12_firstOn 32 = .ok (.bipush 77, 2) := by decide +kernel
theorem dX12_firstOn_34 : decode cX12_firstOn 34 = .ok (.iconst 4, 1) := by decide +kernel
theorem dX12_firstOn_35 : decode cX12_firstOn 35 = .ok (.iload_n 3, 1) := by decide +kernel
theorem dX12_firstOn_36 : decode cX12_firstOn 36 = .ok (.imul, 1) := by decide +kernel
theorem dX12_firstOn_37 : decode cX12_firstOn 37 = .ok (.iadd, 1) := by decide +kernel
theorem dX12_firstOn_38 : decode cX12_firstOn 38 = .ok (.iconst 1, 1) := by decide +kernel
theorem dX12_firstOn_39 : decode cX12_firstOn 39 = .ok (.iadd, 1) := by decide +kernel
theorem dX12_firstOn_40 : decode cX12_firstOn 40 = .ok (.iaload, 1) := by decide +kernel
theorem dX12_firstOn_41 : decode cX12_firstOn 41 = .ok (.iload_n 2, 1) := by decide +kernel
theorem dX12_firstOn_42 : decode cX12_firstOn 42 = .ok (.if_icmp .ne 5, 3) := by decide +kernel
theorem dX12_firstOn_45 : decode cX12_firstOn 45 = .ok (.iload_n 3, 1) := by decide +kernel
theorem dX12_firstOn_46 : decode cX12_firstOn 46 = .ok (.ireturn, 1) := by decide +kernel
theorem dX12_firstOn_47 : decode cX12_firstOn 47 = .ok (.iinc 3 1, 3) := by decide +kernel
theorem dX12_firstOn_50 : decode cX12_firstOn 50 = .ok (.goto (-48), 3) := by decide +kernel
theorem dX12_firstOn_53 : decode cX12_firstOn 53 = .ok (.iconst (-1), 1) := by decide +kernel
theorem dX12_firstOn_54 : decode cX12_firstOn 54 = .ok (.ireturn, 1) := by decide +kernel
theorem dX12_settle_0 : decode cX12_settle 0 = .ok (.iconst 0, 1) := by decide +kernel
theorem dX12_settle_1 : decode cX12_settle 1 = .ok (.istore_n 1, 1) := by decide +kernel
theorem dX12_settle_2 : decode cX12_settle 2 = .ok (.iload_n 1, 1) := by decide +kernel
theorem dX12_settle_3 : decode cX12_settle 3 = .ok (.bipush 6, 2) := by decide +kernel
theorem dX12_settle_5 : decode cX12_settle 5 = .ok (.if_icmp .ge 47, 3) := by decide +kernel
theorem dX12_settle_8 : decode cX12_settle 8 = .ok (.aload_n 0, 1) := by decide +kernel
theorem dX12_settle_9 : decode cX12_settle 9 = .ok (.getfield 47, 3) := by decide +kernel
theorem dX12_settle_12 : decode cX12_settle 12 = .ok (.iload_n 1, 1) := by decide +kernel
theorem dX12_settle_13 : decode cX12_settle 13 = .ok (.iload_n 1, 1) := by decide +kernel
theorem dX12_settle_14 : decode cX12_settle 14 = .ok (.ifCond .ne 16, 3) := by decide +kernel
theorem dX12_settle_17 : decode cX12_settle 17 = .ok (.aload_n 0, 1) := by decide +kernel
theorem dX12_settle_18 : decode cX12_settle 18 = .ok (.getfield 33, 3) := by decide +kernel
theorem dX12_settle_21 : decode cX12_settle 21 = .ok (.iconst 0, 1) := by decide +kernel
theorem dX12_settle_22 : decode cX12_settle 22 = .ok (.iaload, 1) := by decide +kernel
theorem dX12_settle_23 : decode cX12_settle 23 = .ok (.ifCond .le 7, 3) := by decide +kernel
theorem dX12_settle_26 : decode cX12_settle 26 = .ok (.iconst 1, 1) := by decide +kernel
theorem dX12_settle_27 : decode cX12_settle 27 = .ok (.goto 4, 3) := by decide +kernel
theorem dX12_settle_30 : decode cX12_settle 30 = .ok (.iconst 0, 1) := by decide +kernel
theorem dX12_settle_31 : decode cX12_settle 31 = .ok (.bastore, 1) := by decide +kernel
theorem dX12_settle_32 : decode cX12_settle 32 = .ok (.aload_n 0, 1) := by decide +kernel
theorem dX12_settle_33 : decode cX12_settle 33 = .ok (.getfield 51, 3) := by decide +kernel
theorem dX12_settle_36 : decode cX12_settle 36 = .ok (.iload_n 1, 1) := by decide +kernel
theorem dX12_settle_37 : decode cX12_settle 37 = .ok (.iconst 0, 1) := by decide +kernel
theorem dX12_settle_38 : decode cX12_settle 38 = .ok (.iastore, 1) := by decide +kernel
theorem dX12_settle_39 : decode cX12_settle 39 = .ok (.aload_n 0, 1) := by decide +kernel
theorem dX12_settle_40 : decode cX12_settle 40 = .ok (.getfield 54, 3) := by decide +kernel
theorem dX12_settle_43 : decode cX12_settle 43 = .ok (.iload_n 1, 1) := by decide +kernel
theorem dX12_settle_44 : decode cX12_settle 44 = .ok (.iconst 0, 1) := by decide +kernel
theorem dX12_settle_45 : decode cX12_settle 45 = .ok (.iastore, 1) := by decide +kernel
theorem dX12_settle_46 : decode cX12_settle 46 = .ok (.iinc 1 1, 3) := by decide +kernel
theorem dX12_settle_49 : decode cX12_settle 49 = .ok (.goto (-47), 3) := by decide +kernel
theorem dX12_settle_52 : decode cX12_settle 52 = .ok (.iconst 0, 1) := by decide +kernel
theorem dX12_settle_53 : decode cX12_settle 53 = .ok (.istore_n 1, 1) := by decide +kernel
theorem dX12_settle_54 : decode cX12_settle 54 = .ok (.iload_n 1, 1) := by decide +kernel
theorem dX12_settle_55 : decode cX12_settle 55 = .ok (.aload_n 0, 1) := by decide +kernel
theorem dX12_settle_56 : decode cX12_settle 56 = .ok (.getfield 33, 3) := by decide +kernel
theorem dX12_settle_59 : decode cX12_settle 59 = .ok (.bipush 11, 2) := by decide +kernel
theorem dX12_settle_61 : decode cX12_settle 61 = .ok (.iaload, 1) := by decide +kernel
theorem dX12_settle_62 : decode cX12_settle 62 = .ok (.if_icmp .ge 14, 3) := by decide +kernel
theorem dX12_settle_65 : decode cX12_settle 65 = .ok (.aload_n 0, 1) := by decide +kernel
theorem dX12_settle_66 : decode cX12_settle 66 = .ok (.iload_n 1, 1) := by decide +kernel
theorem dX12_settle_67 : decode cX12_settle 67 = .ok (.invokevirtual 311, 3) := by decide +kernel
theorem dX12_settle_70 : decode cX12_settle 70 = .ok (.iinc 1 1, 3) := by decide +kernel
theorem dX12_settle_73 : decode cX12_settle 73 = .ok (.goto (-19), 3) := by decide +kernel
theorem dX12_settle_76 : decode cX12_settle 76 = .ok (.iconst 0, 1) := by decide +kernel
theorem dX12_settle_77 : decode cX12_settle 77 = .ok (.istore_n 1, 1) := by decide +kernel
theorem dX12_settle_78 : decode cX12_settle 78 = .ok (.iload_n 1, 1) := by decide +kernel
theorem dX12_settle_79 : decode cX12_settle 79 = .ok (.ifCond .lt 167, 3) := by decide +kernel
theorem dX12_settle_82 : decode cX12_settle 82 = .ok (.iconst (-1), 1) := by decide +kernel
theorem dX12_settle_83 : decode cX12_settle 83 = .ok (.istore_n 1, 1) := by decide +kernel
theorem dX12_settle_84 : decode cX12_settle 84 = .ok (.iconst 0, 1) := by decide +kernel
theorem dX12_settle_85 : decode cX12_settle 85 = .ok (.istore_n 2, 1) := by decide +kernel
theorem dX12_settle_86 : decode cX12_settle 86 = .ok (.iconst 0, 1) := by decide +kernel
theorem dX12_settle_87 : decode cX12_settle 87 = .ok (.istore_n 3, 1) := by decide +kernel
theorem dX12_settle_88 : decode cX12_settle 88 = .ok (.iload_n 3, 1) := by decide +kernel
theorem dX12_settle_89 : decode cX12_settle 89 = .ok (.aload_n 0, 1) := by decide +kernel
theorem dX12_settle_90 : decode cX12_settle 90 = .ok (.getfield 33, 3) := by decide +kernel
theorem dX12_settle_93 : decode cX12_settle 93 = .ok (.iconst 0, 1) := by decide +kernel
theorem dX12_settle_94 : decode cX12_settle 94 = .ok (.iaload, 1) := by decide +kernel
theorem dX12_settle_95 : decode cX12_settle 95 = .ok (.if_icmp .ge 86, 3) := by decide +kernel
theorem dX12_settle_98 : decode cX12_settle 98 = .ok (.iconst 0, 1) := by decide +kernel
theorem dX12_settle_99 : decode cX12_settle 99 = .ok (.istore 4, 2) := by decide +kernel
theorem dX12_settle_101 : decode cX12_settle 101 = .ok (.iconst 0, 1) := by decide +kernel
theorem dX12_settle_102 : decode cX12_settle 102 = .ok (.istore 5, 2) := by decide +kernel
theorem dX12_settle_104 : decode cX12_settle 104 = .ok (.iload 5, 2) := by decide +kernel
theorem dX12_settle_106 : decode cX12_settle 106 = .ok (.aload_n 0, 1) := by decide +kernel
theorem dX12_settle_107 : decode cX12_settle 107 = .ok (.getfield 33, 3) := by decide +kernel
theorem dX12_settle_110 : decode cX12_settle 110 = .ok (.bipush 11, 2) := by decide +kernel
theorem dX12_settle_112 : decode cX12_settle 112 = .ok (.iaload, 1) := by decide +kernel
theorem dX12_settle_113 : decode cX12_settle 113 = .ok (.if_icmp .ge 48, 3) := by decide +kernel
theorem dX12_settle_116 : decode cX12_settle 116 = .ok (.aload_n 0, 1) := by decide +kernel
theorem dX12_settle_117 : decode cX12_settle 117 = .ok (.getfield 47, 3) := by decide +kernel
theorem dX12_settle_120 : decode cX12_settle 120 = .ok (.iload_n 3, 1) := by decide +kernel
theorem dX12_settle_121 : decode cX12_settle 121 = .ok (.baload, 1) := by decide +kernel
theorem dX12_settle_122 : decode cX12_settle 122 = .ok (.ifCond .ne 39, 3) := by decide +kernel
theorem dX12_settle_125 : decode cX12_settle 125 = .ok (.iload 4, 2) := by decide +kernel
theorem dX12_settle_127 : decode cX12_settle 127 = .ok (.aload_n 0, 1) := by decide +kernel
theorem dX12_settle_128 : decode cX12_settle 128 = .ok (.getfield 66, 3) := by decide +kernel
theorem dX12_settle_131 : decode cX12_settle 131 = .ok (.iload 5, 2) := by decide +kernel
theorem dX12_settle_133 : decode cX12_settle 133 = .ok (.iaload, 1) := by decide +kernel
theorem dX12_settle_134 : decode cX12_settle 134 = .ok (.ifCond .le 17, 3) := by decide +kernel
theorem dX12_settle_137 : decode cX12_settle 137 = .ok (.aload_n 0, 1) := by decide +kernel
theorem dX12_settle_138 : decode cX12_settle 138 = .ok (.iload 5, 2) := by decide +kernel
theorem dX12_settle_140 : decode cX12_settle 140 = .ok (.iload_n 3, 1) := by decide +kernel
theorem dX12_settle_141 : decode cX12_settle 141 = .ok (.invokevirtual 314, 3) := by decide +kernel
theorem dX12_settle_144 : decode cX12_settle 144 = .ok (.ifCond .lt 7, 3) := by decide +kernel
theorem dX12_settle_147 : decode cX12_settle 147 = .ok (.iconst 1, 1) := by decide +kernel
theorem dX12_settle_148 : decode cX12_settle 148 = .ok (.goto 4, 3) := by decide +kernel
theorem dX12_settle_151 : decode cX12_settle 151 = .ok (.iconst 0, 1) := by decide +kernel
theorem dX12_settle_152 : decode cX12_settle 152 = .ok (.iadd, 1) := by decide +kernel
theorem dX12_settle_153 : decode cX12_settle 153 = .ok (.istore 4, 2) := by decide +kernel
theorem dX12_settle_155 : decode cX12_settle 155 = .ok (.iinc 5 1, 3) := by decide +kernel
theorem dX12_settle_158 : decode cX12_settle 158 = .ok (.goto (-54), 3) := by decide +kernel
theorem dX12_settle_161 : decode cX12_settle 161 = .ok (.iload 4, 2) := by decide +kernel
theorem dX12_settle_163 : decode cX12_settle 163 = .ok (.iload_n 2, 1) := by decide +kernel
theorem dX12_settle_164 : decode cX12_settle 164 = .ok (.if_icmp .gt 6, 3) := by decide +kernel
theorem dX12_settle_167 : decode cX12_settle 167 = .ok (.goto 8, 3) := by decide +kernel
theorem dX12_settle_170 : decode cX12_settle 170 = .ok (.iload 4, 2) := by decide +kernel
theorem dX12_settle_172 : decode cX12_settle 172 = .ok (.istore_n 2, 1) := by decide +kernel
theorem dX12_settle_173 : decode cX12_settle 173 = .ok (.iload_n 3, 1) := by decide +kernel
theorem dX12_settle_174 : decode cX12_settle 174 = .ok (.istore_n 1, 1) := by decide +kernel
theorem dX12_settle_175 : decode cX12_settle 175 = .ok (.iinc 3 1, 3) := by decide +kernel
theorem dX12_settle_178 : decode cX12_settle 178 = .ok (.goto (-90), 3) := by decide +kernel
theorem dX12_settle_181 : decode cX12_settle 181 = .ok (.iload_n 1, 1) := by decide +kernel
theorem dX12_settle_182 : decode cX12_settle 182 = .ok (.ifCond .ge 6, 3) := by decide +kernel
theorem dX12_settle_185 : decode cX12_settle 185 = .ok (.goto (-107), 3) := by decide +kernel
theorem dX12_settle_188 : decode cX12_settle 188 = .ok (.aload_n 0, 1) := by decide +kernel
theorem dX12_settle_189 : decode cX12_settle 189 = .ok (.getfield 51, 3) := by decide +kernel
theorem dX12_settle_192 : decode cX12_settle 192 = .ok (.iload_n 1, 1) := by decide +kernel
theorem dX12_settle_193 : decode cX12_settle 193 = .ok (.aload_n 0, 1) := by decide +kernel
theorem dX12_settle_194 : decode cX12_settle 194 = .ok (.iload_n 1, 1) := by decide +kernel
theorem dX12_settle_195 : decode cX12_settle 195 = .ok (.iconst 2, 1) := by decide +kernel
theorem dX12_settle_196 : decode cX12_settle 196 = .ok (.invokevirtual 317, 3) := by decide +kernel
theorem dX12_settle_199 : decode cX12_settle 199 = .ok (.iastore, 1) := by decide +kernel
theorem dX12_settle_200 : decode cX12_settle 200 = .ok (.aload_n 0, 1) := by decide +kernel
theorem dX12_settle_201 : decode cX12_settle 201 = .ok (.getfield 54, 3) := by decide +kernel
theorem dX12_settle_204 : decode cX12_settle 204 = .ok (.iload_n 1, 1) := by decide +kernel
theorem dX12_settle_205 : decode cX12_settle 205 = .ok (.aload_n 0, 1) := by decide +kernel
theorem dX12_settle_206 : decode cX12_settle 206 = .ok (.iload_n 1, 1) := by decide +kernel
theorem dX12_settle_207 : decode cX12_settle 207 = .ok (.iconst 3, 1) := by decide +kernel
theorem dX12_settle_208 : decode cX12_settle 208 = .ok (.invokevirtual 317, 3) := by decide +kernel
theorem dX12_settle_211 : decode cX12_settle 211 = .ok (.iastore, 1) := by decide +kernel
theorem dX12_settle_212 : decode cX12_settle 212 = .ok (.aload_n 0, 1) := by decide +kernel
theorem dX12_settle_213 : decode cX12_settle 213 = .ok (.getfield 47, 3) := by decide +kernel
theorem dX12_settle_216 : decode cX12_settle 216 = .ok (.iload_n 1, 1) := by decide +kernel
theorem dX12_settle_217 : decode cX12_settle 217 = .ok (.iconst 1, 1) := by decide +kernel
theorem dX12_settle_218 : decode cX12_settle 218 = .ok (.bastore, 1) := by decide +kernel
theorem dX12_settle_219 : decode cX12_settle 219 = .ok (.iconst 0, 1) := by decide +kernel
theorem dX12_settle_220 : decode cX12_settle 220 = .ok (.istore_n 3, 1) := by decide +kernel
theorem dX12_settle_221 : decode cX12_settle 221 = .ok (.iload_n 3, 1) := by decide +kernel
theorem dX12_settle_222 : decode cX12_settle 222 = .ok (.aload_n 0, 1) := by decide +kernel
theorem dX12_settle_223 : decode cX12_settle 223 = .ok (.getfield 33, 3) := by decide +kernel
theorem dX12_settle_226 : decode cX12_settle 226 = .ok (.bipush 11, 2) := by decide +kernel
theorem dX12_settle_228 : decode cX12_settle 228 = .ok (.iaload, 1) := by decide +kernel
theorem dX12_settle_229 : decode cX12_settle 229 = .ok (.if_icmp .ge 14, 3) := by decide +kernel
theorem dX12_settle_232 : decode cX12_settle 232 = .ok (.aload_n 0, 1) := by decide +kernel
theorem dX12_settle_233 : decode cX12_settle 233 = .ok (.iload_n 3, 1) := by decide +kernel
theorem dX12_settle_234 : decode cX12_settle 234 = .ok (.invokevirtual 311, 3) := by decide +kernel
theorem dX12_settle_237 : decode cX12_settle 237 = .ok (.iinc 3 1, 3) := by decide +kernel
theorem dX12_settle_240 : decode cX12_settle 240 = .ok (.goto (-19), 3) := by decide +kernel
theorem dX12_settle_243 : decode cX12_settle 243 = .ok (.goto (-165), 3) := by decide +kernel
theorem dX12_settle_246 : decode cX12_settle 246 = .ok (.return_, 1) := by decide +kernel
theorem dX12_middle_0 : decode cX12_middle 0 = .ok (.iconst 0, 1) := by decide +kernel
theorem dX12_middle_1 : decode cX12_middle 1 = .ok (.istore_n 3, 1) := by decide +kernel
theorem dX12_middle_2 : decode cX12_middle 2 = .ok (.iconst 0, 1) := by decide +kernel
theorem dX12_middle_3 : decode cX12_middle 3 = .ok (.istore 4, 2) := by decide +kernel
theorem dX12_middle_5 : decode cX12_middle 5 = .ok (.iload 4, 2) := by decide +kernel
theorem dX12_middle_7 : decode cX12_middle 7 = .ok (.aload_n 0, 1) := by decide +kernel
theorem dX12_middle_8 : decode cX12_middle 8 = .ok (.getfield 33, 3) := by decide +kernel
theorem dX12_middle_11 : decode cX12_middle 11 = .ok (.bipush 11, 2) := by decide +kernel
theorem dX12_middle_13 : decode cX12_middle 13 = .ok (.iaload, 1) := by decide +kernel
theorem dX12_middle_14 : decode cX12_middle 14 = .ok (.if_icmp .ge 131, 3) := by decide +kernel
theorem dX12_middle_17 : decode cX12_middle 17 = .ok (.aload_n 0, 1) := by decide +kernel
theorem dX12_middle_18 : decode cX12_middle 18 = .ok (.iload 4, 2) := by decide +kernel
theorem dX12_middle_20 : decode cX12_middle 20 = .ok (.iload_n 1, 1) := by decide +kernel
theorem dX12_middle_21 : decode cX12_middle 21 = .ok (.invokevirtual 314, 3) := by decide +kernel
theorem dX12_middle_24 : decode cX12_middle 24 = .ok (.istore 5, 2) := by decide +kernel
theorem dX12_middle_26 : decode cX12_middle 26 = .ok (.aload_n 0, 1) := by decide +kernel
theorem dX12_middle_27 : decode cX12_middle 27 = .ok (.getfield 66, 3) := by decide +kernel
theorem dX12_middle_30 : decode cX12_middle 30 = .ok (.iload 4, 2) := by decide +kernel
theorem dX12_middle_32 : decode cX12_middle 32 = .ok (.iaload, 1) := by decide +kernel
theorem dX12_middle_33 : decode cX12_middle 33 = .ok (.ifCond .eq 106, 3) := by decide +kernel
theorem dX12_middle_36 : decode cX12_middle 36 = .ok (.iload 5, 2) := by decide +kernel
theorem dX12_middle_38 : decode cX12_middle 38 = .ok (.ifCond .ge 6, 3) := by decide +kernel
theorem dX12_middle_41 : decode cX12_middle 41 = .ok (.goto 98, 3) := by decide +kernel
theorem dX12_middle_44 : decode cX12_middle 44 = .ok (.aload_n 0, 1) := by decide +kernel
theorem dX12_middle_45 : decode cX12_middle 45 = .ok (.getfield 33, 3) := by decide +kernel
theorem dX12_middle_48 : decode cX12_middle 48 = .ok (.bipush 77, 2) := by decide +kernel
theorem dX12_middle_50 : decode cX12_middle 50 = .ok (.iconst 4, 1) := by decide +kernel
theorem dX12_middle_51 : decode cX12_middle 51 = .ok (.iload 5, 2) := by decide +kernel
theorem dX12_middle_53 : decode cX12_middle 53 = .ok (.imul, 1) := by decide +kernel
theorem dX12_middle_54 : decode cX12_middle 54 = .ok (.iadd, 1) := by decide +kernel
theorem dX12_middle_55 : decode cX12_middle 55 = .ok (.iload_n 2, 1) := by decide +kernel
theorem dX12_middle_56 : decode cX12_middle 56 = .ok (.iadd, 1) := by decide +kernel
theorem dX12_middle_57 : decode cX12_middle 57 = .ok (.iaload, 1) := by decide +kernel
theorem dX12_middle_58 : decode cX12_middle 58 = .ok (.iload_n 2, 1) := by decide +kernel
theorem dX12_middle_59 : decode cX12_middle 59 = .ok (.iconst 2, 1) := by decide +kernel
theorem dX12_middle_60 : decode cX12_middle 60 = .ok (.if_icmp .ne 13, 3) := by decide +kernel
theorem dX12_middle_63 : decode cX12_middle 63 = .ok (.aload_n 0, 1) := by decide +kernel
theorem dX12_middle_64 : decode cX12_middle 64 = .ok (.getfield 57, 3) := by decide +kernel
theorem dX12_middle_67 : decode cX12_middle 67 = .ok (.iload 4, 2) := by decide +kernel
theorem dX12_middle_69 : decode cX12_middle 69 = .ok (.iaload, 1) := by decide +kernel
theorem dX12_middle_70 : decode cX12_middle 70 = .ok (.goto 10, 3) := by decide +kernel
theorem dX12_middle_73 : decode cX12_middle 73 = .ok (.aload_n 0, 1) := by decide +kernel
theorem dX12_middle_74 : decode cX12_middle 74 = .ok (.getfield 60, 3) := by decide +kernel
theorem dX12_middle_77 : decode cX12_middle 77 = .ok (.iload 4, 2) := by decide +kernel
theorem dX12_middle_79 : decode cX12_middle 79 = .ok (.iaload, 1) := by decide +kernel
theorem dX12_middle_80 : decode cX12_middle 80 = .ok (.isub, 1) := by decide +kernel
theorem dX12_middle_81 : decode cX12_middle 81 = .ok (.istore 6, 2) := by decide +kernel
theorem dX12_middle_83 : decode cX12_middle 83 = .ok (.iload_n 3, 1) := by decide +kernel
theorem dX12_middle_84 : decode cX12_middle 84 = .ok (.istore 7, 2) := by decide +kernel
theorem dX12_middle_86 : decode cX12_middle 86 = .ok (.iload 7, 2) := by decide +kernel
theorem dX12_middle_88 : decode cX12_middle 88 = .ok (.ifCond .le 39, 3) := by decide +kernel
theorem dX12_middle_91 : decode cX12_middle 91 = .ok (.aload_n 0, 1) := by decide +kernel
theorem dX12_middle_92 : decode cX12_middle 92 = .ok (.getfield 69, 3) := by decide +kernel
theorem dX12_middle_95 : decode cX12_middle 95 = .ok (.iload 7, 2) := by decide +kernel
theorem dX12_middle_97 : decode cX12_middle 97 = .ok (.iconst 1, 1) := by decide +kernel
theorem dX12_middle_98 : decode cX12_middle 98 = .ok (.isub, 1) := by decide +kernel
theorem dX12_middle_99 : decode cX12_middle 99 = .ok (.iaload, 1) := by decide +kernel
theorem dX12_middle_100 : decode cX12_middle 100 = .ok (.iload 6, 2) := by decide +kernel
theorem dX12_middle_102 : decode cX12_middle 102 = .ok (.if_icmp .le 25, 3) := by decide +kernel
theorem dX12_middle_105 : decode cX12_middle 105 = .ok (.aload_n 0, 1) := by decide +kernel
theorem dX12_middle_106 : decode cX12_middle 106 = .ok (.getfield 69, 3) := by decide +kernel
theorem dX12_middle_109 : decode cX12_middle 109 = .ok (.iload 7, 2) := by decide +kernel
theorem dX12_middle_111 : decode cX12_middle 111 = .ok (.aload_n 0, 1) := by decide +kernel
theorem dX12_middle_112 : decode cX12_middle 112 = .ok (.getfield 69, 3) := by decide +kernel
theorem dX12_middle_115 : decode cX12_middle 115 = .ok (.iload 7, 2) := by decide +kernel
theorem dX12_middle_117 : decode cX12_middle 117 = .ok (.iconst 1, 1) := by decide +kernel
theorem dX12_middle_118 : decode cX12_middle 118 = .ok (.isub, 1) := by decide +kernel
theorem dX12_middle_119 : decode cX12_middle 119 = .ok (.iaload, 1) := by decide +kernel
theorem dX12_middle_120 : decode cX12_middle 120 = .ok (.iastore, 1) := by decide +kernel
theorem dX12_middle_121 : decode cX12_middle 121 = .ok (.iinc 7 (-1), 3) := by decide +kernel
theorem dX12_middle_124 : decode cX12_middle 124 = .ok (.goto (-38), 3) := by decide +kernel
theorem dX12_middle_127 : decode cX12_middle 127 = .ok (.aload_n 0, 1) := by decide +kernel
theorem dX12_middle_128 : decode cX12_middle 128 = .ok (.getfield 69, 3) := by decide +kernel
theorem dX12_middle_131 : decode cX12_middle 131 = .ok (.iload 7, 2) := by decide +kernel
theorem dX12_middle_133 : decode cX12_middle 133 = .ok (.iload 6, 2) := by decide +kernel
theorem dX12_middle_135 : decode cX12_middle 135 = .ok (.iastore, 1) := by decide +kernel
theorem dX12_middle_136 : decode cX12_middle 136 = .ok (.iinc 3 1, 3) := by decide +kernel
theorem dX12_middle_139 : decode cX12_middle 139 = .ok (.iinc 4 1, 3) := by decide +kernel
theorem dX12_middle_142 : decode cX12_middle 142 = .ok (.goto (-137), 3) := by decide +kernel
theorem dX12_middle_145 : decode cX12_middle 145 = .ok (.aload_n 0, 1) := by decide +kernel
theorem dX12_middle_146 : decode cX12_middle 146 = .ok (.getfield 69, 3) := by decide +kernel
theorem dX12_middle_149 : decode cX12_middle 149 = .ok (.iload_n 3, 1) := by decide +kernel
theorem dX12_middle_150 : decode cX12_middle 150 = .ok (.iconst 1, 1) := by decide +kernel
theorem dX12_middle_151 : decode cX12_middle 151 = .ok (.isub, 1) := by decide +kernel
theorem dX12_middle_152 : decode cX12_middle 152 = .ok (.iconst 2, 1) := by decide +kernel
theorem dX12_middle_153 : decode cX12_middle 153 = .ok (.idiv, 1) := by decide +kernel
theorem dX12_middle_154 : decode cX12_middle 154 = .ok (.iaload, 1) := by decide +kernel
theorem dX12_middle_155 : decode cX12_middle 155 = .ok (.ireturn, 1) := by decide +kernel
theorem dX12_lean_0 : decode cX12_lean 0 = .ok (.aload_n 0, 1) := by decide +kernel
theorem dX12_lean_1 : decode cX12_lean 1 = .ok (.iload_n 1, 1) := by decide +kernel
theorem dX12_lean_2 : decode cX12_lean 2 = .ok (.iconst 0, 1) := by decide +kernel
theorem dX12_lean_3 : decode cX12_lean 3 = .ok (.aload_n 0, 1) := by decide +kernel
theorem dX12_lean_4 : decode cX12_lean 4 = .ok (.getfield 33, 3) := by decide +kernel
theorem dX12_lean_7 : decode cX12_lean 7 = .ok (.iconst 0, 1) := by decide +kernel
theorem dX12_lean_8 : decode cX12_lean 8 = .ok (.iaload, 1) := by decide +kernel
theorem dX12_lean_9 : decode cX12_lean 9 = .ok (.iconst 1, 1) := by decide +kernel
theorem dX12_lean_10 : decode cX12_lean 10 = .ok (.isub, 1) := by decide +kernel
theorem dX12_lean_11 : decode cX12_lean 11 = .ok (.invokestatic 262, 3) := by decide +kernel
theorem dX12_lean_14 : decode cX12_lean 14 = .ok (.ifCond .eq 12, 3) := by decide +kernel
theorem dX12_lean_17 : decode cX12_lean 17 = .ok (.iload_n 2, 1) := by decide +kernel
theorem dX12_lean_18 : decode cX12_lean 18 = .ok (.iconst 0, 1) := by decide +kernel
theorem dX12_lean_19 : decode cX12_lean 19 = .ok (.iconst 2, 1) := by decide +kernel
theorem dX12_lean_20 : decode cX12_lean 20 = .ok (.invokestatic 262, 3) := by decide +kernel
theorem dX12_lean_23 : decode cX12_lean 23 = .ok (.ifCond .ne 7, 3) := by decide +kernel
theorem dX12_lean_26 : decode cX12_lean 26 = .ok (.iconst 1, 1) := by decide +kernel
theorem dX12_lean_27 : decode cX12_lean 27 = .ok (.goto 4, 3) := by decide +kernel
theorem dX12_lean_30 : decode cX12_lean 30 = .ok (.iconst 0, 1) := by decide +kernel
theorem dX12_lean_31 : decode cX12_lean 31 = .ok (.invokevirtual 320, 3) := by decide +kernel
theorem dX12_lean_34 : decode cX12_lean 34 = .ok (.ifCond .eq 5, 3) := by decide +kernel
theorem dX12_lean_37 : decode cX12_lean 37 = .ok (.iconst 0, 1) := by decide +kernel
theorem dX12_lean_38 : decode cX12_lean 38 = .ok (.ireturn, 1) := by decide +kernel
theorem dX12_lean_39 : decode cX12_lean 39 = .ok (.aload_n 0, 1) := by decide +kernel
theorem dX12_lean_40 : decode cX12_lean 40 = .ok (.invokevirtual 324, 3) := by decide +kernel
theorem dX12_lean_43 : decode cX12_lean 43 = .ok (.iload_n 2, 1) := by decide +kernel
theorem dX12_lean_44 : decode cX12_lean 44 = .ok (.ifCond .ne 12, 3) := by decide +kernel
theorem dX12_lean_47 : decode cX12_lean 47 = .ok (.aload_n 0, 1) := by decide +kernel
theorem dX12_lean_48 : decode cX12_lean 48 = .ok (.getfield 51, 3) := by decide +kernel
theorem dX12_lean_51 : decode cX12_lean 51 = .ok (.iload_n 1, 1) := by decide +kernel
theorem dX12_lean_52 : decode cX12_lean 52 = .ok (.iaload, 1) := by decide +kernel
theorem dX12_lean_53 : decode cX12_lean 53 = .ok (.goto 31, 3) := by decide +kernel
theorem dX12_lean_56 : decode cX12_lean 56 = .ok (.iload_n 2, 1) := by decide +kernel
theorem dX12_lean_57 : decode cX12_lean 57 = .ok (.iconst 1, 1) := by decide +kernel
theorem dX12_lean_58 : decode cX12_lean 58 = .ok (.if_icmp .ne 12, 3) := by decide +kernel
theorem dX12_lean_61 : decode cX12_lean 61 = .ok (.aload_n 0, 1) := by decide +kernel
theorem dX12_lean_62 : decode cX12_lean 62 = .ok (.getfield 54, 3) := by decide +kernel
theorem dX12_lean_65 : decode cX12_lean 65 = .ok (.iload_n 1, 1) := by decide +kernel
theorem dX12_lean_66 : decode cX12_lean 66 = .ok (.iaload, 1) := by decide +kernel
theorem dX12_lean_67 : decode cX12_lean 67 = .ok (.goto 17, 3) := by decide +kernel
theorem dX12_lean_70 : decode cX12_lean 70 = .ok (.aload_n 0, 1) := by decide +kernel
theorem dX12_lean_71 : decode cX12_lean 71 = .ok (.getfield 47, 3) := by decide +kernel
theorem dX12_lean_74 : decode cX12_lean 74 = .ok (.iload_n 1, 1) := by decide +kernel
theorem dX12_lean_75 : decode cX12_lean 75 = .ok (.baload, 1) := by decide +kernel
theorem dX12_lean_76 : decode cX12_lean 76 = .ok (.ifCond .eq 7, 3) := by decide +kernel
theorem dX12_lean_79 : decode cX12_lean 79 = .ok (.iconst 1, 1) := by decide +kernel
theorem dX12_lean_80 : decode cX12_lean 80 = .ok (.goto 4, 3) := by decide +kernel
theorem dX12_lean_83 : decode cX12_lean 83 = .ok (.iconst 0, 1) := by decide +kernel
theorem dX12_lean_84 : decode cX12_lean 84 = .ok (.ireturn, 1) := by decide +kernel
theorem dX12_flowOf_0 : decode cX12_flowOf 0 = .ok (.aload_n 0, 1) := by decide +kernel
theorem dX12_flowOf_1 : decode cX12_flowOf 1 = .ok (.getfield 60, 3) := by decide +kernel
theorem dX12_flowOf_4 : decode cX12_flowOf 4 = .ok (.iload_n 1, 1) := by decide +kernel
theorem dX12_flowOf_5 : decode cX12_flowOf 5 = .ok (.iaload, 1) := by decide +kernel
theorem dX12_flowOf_6 : decode cX12_flowOf 6 = .ok (.iconst 1, 1) := by decide +kernel
theorem dX12_flowOf_7 : decode cX12_flowOf 7 = .ok (.if_icmp .ge 7, 3) := by decide +kernel
theorem dX12_flowOf_10 : decode cX12_flowOf 10 = .ok (.iconst 0, 1) := by decide +kernel
theorem dX12_flowOf_11 : decode cX12_flowOf 11 = .ok (.goto 13, 3) := by decide +kernel
theorem dX12_flowOf_14 : decode cX12_flowOf 14 = .ok (.ldc_w 327, 3) := by decide +kernel
theorem dX12_flowOf_17 : decode cX12_flowOf 17 = .ok (.aload_n 0, 1) := by decide +kernel
theorem dX12_flowOf_18 : decode cX12_flowOf 18 = .ok (.getfield 60, 3) := by decide +kernel
theorem dX12_flowOf_21 : decode cX12_flowOf 21 = .ok (.iload_n 1, 1) := by decide +kernel
theorem dX12_flowOf_22 : decode cX12_flowOf 22 = .ok (.iaload, 1) := by decide +kernel
theorem dX12_flowOf_23 : decode cX12_flowOf 23 = .ok (.idiv, 1) := by decide +kernel
theorem dX12_flowOf_24 : decode cX12_flowOf 24 = .ok (.ireturn, 1) := by decide +kernel
theorem dX12_packOf_0 : decode cX12_packOf 0 = .ok (.iconst 0, 1) := by decide +kernel
theorem dX12_packOf_1 : decode cX12_packOf 1 = .ok (.istore_n 2, 1) := by decide +kernel
theorem dX12_packOf_2 : decode cX12_packOf 2 = .ok (.iload_n 2, 1) := by decide +kernel
theorem dX12_packOf_3 : decode cX12_packOf 3 = .ok (.aload_n 0, 1) := by decide +kernel
theorem dX12_packOf_4 : decode cX12_packOf 4 = .ok (.getfield 33, 3) := by decide +kernel
theorem dX12_packOf_7 : decode cX12_packOf 7 = .ok (.bipush 14, 2) := by decide +kernel
theorem dX12_packOf_9 : decode cX12_packOf 9 = .ok (.iaload, 1) := by decide +kernel
theorem dX12_packOf_10 : decode cX12_packOf 10 = .ok (.if_icmp .ge 56, 3) := by decide +kernel
theorem dX12_packOf_13 : decode cX12_packOf 13 = .ok (.iconst 0, 1) := by decide +kernel
theorem dX12_packOf_14 : decode cX12_packOf 14 = .ok (.istore_n 3, 1) := by decide +kernel
theorem dX12_packOf_15 : decode cX12_packOf 15 = .ok (.iload_n 3, 1) := by decide +kernel
theorem dX12_packOf_16 : decode cX12_packOf 16 = .ok (.aload_n 0, 1) := by decide +kernel
theorem dX12_packOf_17 : decode cX12_packOf 17 = .ok (.getfield 33, 3) := by decide +kernel
theorem dX12_packOf_20 : decode cX12_packOf 20 = .ok (.sipush 1677, 3) := by decide +kernel
theorem dX12_packOf_23 : decode cX12_packOf 23 = .ok (.iconst 3, 1) := by decide +kernel
theorem dX12_packOf_24 : decode cX12_packOf 24 = .ok (.iload_n 2, 1) := by decide +kernel
theorem dX12_packOf_25 : decode cX12_packOf 25 = .ok (.imul, 1) := by decide +kernel
theorem dX12_packOf_26 : decode cX12_packOf 26 = .ok (.iadd, 1) := by decide +kernel
theorem dX12_packOf_27 : decode cX12_packOf 27 = .ok (.iconst 2, 1) := by decide +kernel
theorem dX12_packOf_28 : decode cX12_packOf 28 = .ok (.iadd, 1) := by decide +kernel
theorem dX12_packOf_29 : decode cX12_packOf 29 = .ok (.iaload, 1) := by decide +kernel
theorem dX12_packOf_30 : decode cX12_packOf 30 = .ok (.if_icmp .ge 30, 3) := by decide +kernel
theorem dX12_packOf_33 : decode cX12_packOf 33 = .ok (.aload_n 0, 1) := by decide +kernel
theorem dX12_packOf_34 : decode cX12_packOf 34 = .ok (.getfield 33, 3) := by decide +kernel
theorem dX12_packOf_37 : decode cX12_packOf 37 = .ok (.sipush 2107, 3) := by decide +kernel
theorem dX12_packOf_40 : decode cX12_packOf 40 = .ok (.bipush 40, 2) := by decide +kernel
theorem dX12_packOf_42 : decode cX12_packOf 42 = .ok (.iload_n 2, 1) := by decide +kernel
theorem dX12_packOf_43 : decode cX12_packOf 43 = .ok (.imul, 1) := by decide +kernel
theorem dX12_packOf_44 : decode cX12_packOf 44 = .ok (.iadd, 1) := by decide +kernel
theorem dX12_packOf_45 : decode cX12_packOf 45 = .ok (.iload_n 3, 1) := by decide +kernel
theorem dX12_packOf_46 : decode cX12_packOf 46 = .ok (.iadd, 1) := by decide +kernel
theorem dX12_packOf_47 : decode cX12_packOf 47 = .ok (.iaload, 1) := by decide +kernel
theorem dX12_packOf_48 : decode cX12_packOf 48 = .ok (.iload_n 1, 1) := by decide +kernel
theorem dX12_packOf_49 : decode cX12_packOf 49 = .ok (.if_icmp .ne 5, 3) := by decide +kernel
theorem dX12_packOf_52 : decode cX12_packOf 52 = .ok (.iload_n 2, 1) := by decide +kernel
theorem dX12_packOf_53 : decode cX12_packOf 53 = .ok (.ireturn, 1) := by decide +kernel
theorem dX12_packOf_54 : decode cX12_packOf 54 = .ok (.iinc 3 1, 3) := by decide +kernel
theorem dX12_packOf_57 : decode cX12_packOf 57 = .ok (.goto (-42), 3) := by decide +kernel
theorem dX12_packOf_60 : decode cX12_packOf 60 = .ok (.iinc 2 1, 3) := by decide +kernel
theorem dX12_packOf_63 : decode cX12_packOf 63 = .ok (.goto (-61), 3) := by decide +kernel
theorem dX12_packOf_66 : decode cX12_packOf 66 = .ok (.iconst (-1), 1) := by decide +kernel
theorem dX12_packOf_67 : decode cX12_packOf 67 = .ok (.ireturn, 1) := by decide +kernel
theorem dX12_about_0 : decode cX12_about 0 = .ok (.aload_n 0, 1) := by decide +kernel
theorem dX12_about_1 : decode cX12_about 1 = .ok (.aload_n 0, 1) := by decide +kernel
theorem dX12_about_2 : decode cX12_about 2 = .ok (.iload_n 1, 1) := by decide +kernel
theorem dX12_about_3 : decode cX12_about 3 = .ok (.invokevirtual 304, 3) := by decide +kernel
theorem dX12_about_6 : decode cX12_about 6 = .ok (.ifCond .eq 12, 3) := by decide +kernel
theorem dX12_about_9 : decode cX12_about 9 = .ok (.iload_n 2, 1) := by decide +kernel
theorem dX12_about_10 : decode cX12_about 10 = .ok (.iconst 0, 1) := by decide +kernel
theorem dX12_about_11 : decode cX12_about 11 = .ok (.iconst 5, 1) := by decide +kernel
theorem dX12_about_12 : decode cX12_about 12 = .ok (.invokestatic 262, 3) := by decide +kernel
theorem dX12_about_15 : decode cX12_about 15 = .ok (.ifCond .ne 7, 3) := by decide +kernel
theorem dX12_about_18 : decode cX12_about 18 = .ok (.iconst 1, 1) := by decide +kernel
theorem dX12_about_19 : decode cX12_about 19 = .ok (.goto 4, 3) := by decide +kernel
theorem dX12_about_22 : decode cX12_about 22 = .ok (.iconst 0, 1) := by decide +kernel
theorem dX12_about_23 : decode cX12_about 23 = .ok (.invokevirtual 320, 3) := by decide +kernel
theorem dX12_about_26 : decode cX12_about 26 = .ok (.ifCond .eq 5, 3) := by decide +kernel
theorem dX12_about_29 : decode cX12_about 29 = .ok (.iconst 0, 1) := by decide +kernel
theorem dX12_about_30 : decode cX12_about 30 = .ok (.ireturn, 1) := by decide +kernel
theorem dX12_about_31 : decode cX12_about 31 = .ok (.aload_n 0, 1) := by decide +kernel
theorem dX12_about_32 : decode cX12_about 32 = .ok (.invokevirtual 324, 3) := by decide +kernel
theorem dX12_about_35 : decode cX12_about 35 = .ok (.iload_n 2, 1) := by decide +kernel
theorem dX12_about_36 : decode cX12_about 36 = .ok (.ifCond .ne 15, 3) := by decide +kernel
theorem dX12_about_39 : decode cX12_about 39 = .ok (.aload_n 0, 1) := by decide +kernel
theorem dX12_about_40 : decode cX12_about 40 = .ok (.getfield 33, 3) := by decide +kernel
theorem dX12_about_43 : decode cX12_about 43 = .ok (.bipush 17, 2) := by decide +kernel
theorem dX12_about_45 : decode cX12_about 45 = .ok (.iload_n 1, 1) := by decide +kernel
theorem dX12_about_46 : decode cX12_about 46 = .ok (.iadd, 1) := by decide +kernel
theorem dX12_about_47 : decode cX12_about 47 = .ok (.iaload, 1) := by decide +kernel
theorem dX12_about_48 : decode cX12_about 48 = .ok (.goto 63, 3) := by decide +kernel
theorem dX12_about_51 : decode cX12_about 51 = .ok (.iload_n 2, 1) := by decide +kernel
theorem dX12_about_52 : decode cX12_about 52 = .ok (.iconst 1, 1) := by decide +kernel
theorem dX12_about_53 : decode cX12_about 53 = .ok (.if_icmp .ne 12, 3) := by decide +kernel
theorem dX12_about_56 : decode cX12_about 56 = .ok (.aload_n 0, 1) := by decide +kernel
theorem dX12_about_57 : decode cX12_about 57 = .ok (.getfield 57, 3) := by decide +kernel
theorem dX12_about_60 : decode cX12_about 60 = .ok (.iload_n 1, 1) := by decide +kernel
theorem dX12_about_61 : decode cX12_about 61 = .ok (.iaload, 1) := by decide +kernel
theorem dX12_about_62 : decode cX12_about 62 = .ok (.goto 49, 3) := by decide +kernel
theorem dX12_about_65 : decode cX12_about 65 = .ok (.iload_n 2, 1) := by decide +kernel
theorem dX12_about_66 : decode cX12_about 66 = .ok (.iconst 2, 1) := by decide +kernel
theorem dX12_about_67 : decode cX12_about 67 = .ok (.if_icmp .ne 12, 3) := by decide +kernel
theorem dX12_about_70 : decode cX12_about 70 = .ok (.aload_n 0, 1) := by decide +kernel
theorem dX12_about_71 : decode cX12_about 71 = .ok (.getfield 60, 3) := by decide +kernel
theorem dX12_about_74 : decode cX12_about 74 = .ok (.iload_n 1, 1) := by decide +kernel
theorem dX12_about_75 : decode cX12_about 75 = .ok (.iaload, 1) := by decide +kernel
theorem dX12_about_76 : decode cX12_about 76 = .ok (.goto 35, 3) := by decide +kernel
theorem dX12_about_79 : decode cX12_about 79 = .ok (.iload_n 2, 1) := by decide +kernel
theorem dX12_about_80 : decode cX12_about 80 = .ok (.iconst 3, 1) := by decide +kernel
theorem dX12_about_81 : decode cX12_about 81 = .ok (.if_icmp .ne 12, 3) := by decide +kernel
theorem dX12_about_84 : decode cX12_about 84 = .ok (.aload_n 0, 1) := by decide +kernel
theorem dX12_about_85 : decode cX12_about 85 = .ok (.getfield 63, 3) := by decide +kernel
theorem dX12_about_88 : decode cX12_about 88 = .ok (.iload_n 1, 1) := by decide +kernel
theorem dX12_about_89 : decode cX12_about 89 = .ok (.iaload, 1) := by decide +kernel
theorem dX12_about_90 : decode cX12_about 90 = .ok (.goto 21, 3) := by decide +kernel
theorem dX12_about_93 : decode cX12_about 93 = .ok (.iload_n 2, 1) := by decide +kernel
theorem dX12_about_94 : decode cX12_about 94 = .ok (.iconst 4, 1) := by decide +kernel
theorem dX12_about_95 : decode cX12_about 95 = .ok (.if_icmp .ne 11, 3) := by decide +kernel
theorem dX12_about_98 : decode cX12_about 98 = .ok (.aload_n 0, 1) := by decide +kernel
theorem dX12_about_99 : decode cX12_about 99 = .ok (.iload_n 1, 1) := by decide +kernel
theorem dX12_about_100 : decode cX12_about 100 = .ok (.invokevirtual 328, 3) := by decide +kernel
theorem dX12_about_103 : decode cX12_about 103 = .ok (.goto 8, 3) := by decide +kernel
theorem dX12_about_106 : decode cX12_about 106 = .ok (.aload_n 0, 1) := by decide +kernel
theorem dX12_about_107 : decode cX12_about 107 = .ok (.iload_n 1, 1) := by decide +kernel
theorem dX12_about_108 : decode cX12_about 108 = .ok (.invokevirtual 332, 3) := by decide +kernel
theorem dX12_about_111 : decode cX12_about 111 = .ok (.ireturn, 1) := by decide +kernel
theorem dX12_again_0 : decode cX12_again 0 = .ok (.aload_n 0, 1) := by decide +kernel
theorem dX12_again_1 : decode cX12_again 1 = .ok (.iconst 0, 1) := by decide +kernel
theorem dX12_again_2 : decode cX12_again 2 = .ok (.putfield 1, 3) := by decide +kernel
theorem dX12_again_5 : decode cX12_again 5 = .ok (.aload_n 0, 1) := by decide +kernel
theorem dX12_again_6 : decode cX12_again 6 = .ok (.invokevirtual 324, 3) := by decide +kernel
theorem dX12_again_9 : decode cX12_again 9 = .ok (.iconst (-1), 1) := by decide +kernel
theorem dX12_again_10 : decode cX12_again 10 = .ok (.istore_n 1, 1) := by decide +kernel
theorem dX12_again_11 : decode cX12_again 11 = .ok (.iconst 0, 1) := by decide +kernel
theorem dX12_again_12 : decode cX12_again 12 = .ok (.istore_n 2, 1) := by decide +kernel
theorem dX12_again_13 : decode cX12_again 13 = .ok (.iload_n 2, 1) := by decide +kernel
theorem dX12_again_14 : decode cX12_again 14 = .ok (.aload_n 0, 1) := by decide +kernel
theorem dX12_again_15 : decode cX12_again 15 = .ok (.getfield 33, 3) := by decide +kernel
theorem dX12_again_18 : decode cX12_again 18 = .ok (.bipush 11, 2) := by decide +kernel
theorem dX12_again_20 : decode cX12_again 20 = .ok (.iaload, 1) := by decide +kernel
theorem dX12_again_21 : decode cX12_again 21 = .ok (.if_icmp .ge 40, 3) := by decide +kernel
theorem dX12_again_24 : decode cX12_again 24 = .ok (.aload_n 0, 1) := by decide +kernel
theorem dX12_again_25 : decode cX12_again 25 = .ok (.getfield 66, 3) := by decide +kernel
theorem dX12_again_28 : decode cX12_again 28 = .ok (.iload_n 2, 1) := by decide +kernel
theorem dX12_again_29 : decode cX12_again 29 = .ok (.iaload, 1) := by decide +kernel
theorem dX12_again_30 : decode cX12_again 30 = .ok (.iconst 1, 1) := by decide +kernel
theorem dX12_again_31 : decode cX12_again 31 = .ok (.if_icmp .le 24, 3) := by decide +kernel
theorem dX12_again_34 : decode cX12_again 34 = .ok (.iload_n 1, 1) := by decide +kernel
theorem dX12_again_35 : decode cX12_again 35 = .ok (.ifCond .lt 18, 3) := by decide +kernel
theorem dX12_again_38 : decode cX12_again 38 = .ok (.aload_n 0, 1) := by decide +kernel
theorem dX12_again_39 : decode cX12_again 39 = .ok (.getfield 63, 3) := by decide +kernel
theorem dX12_again_42 : decode cX12_again 42 = .ok (.iload_n 2, 1) := by decide +kernel
theorem dX12_again_43 : decode cX12_again 43 = .ok (.iaload, 1) := by decide +kernel
theorem dX12_again_44 : decode cX12_again 44 = .ok (.aload_n 0, 1) := by decide +kernel
theorem dX12_again_45 : decode cX12_again 45 = .ok (.getfield 63, 3) := by decide +kernel
theorem dX12_again_48 : decode cX12_again 48 = .ok (.iload_n 1, 1) := by decide +kernel
theorem dX12_again_49 : decode cX12_again 49 = .ok (.iaload, 1) := by decide +kernel
theorem dX12_again_50 : decode cX12_again 50 = .ok (.if_icmp .le 5, 3) := by decide +kernel
theorem dX12_again_53 : decode cX12_again 53 = .ok (.iload_n 2, 1) := by decide +kernel
theorem dX12_again_54 : decode cX12_again 54 = .ok (.istore_n 1, 1) := by decide +kernel
theorem dX12_again_55 : decode cX12_again 55 = .ok (.iinc 2 1, 3) := by decide +kernel
theorem dX12_again_58 : decode cX12_again 58 = .ok (.goto (-45), 3) := by decide +kernel
theorem dX12_again_61 : decode cX12_again 61 = .ok (.iload_n 1, 1) := by decide +kernel
theorem dX12_again_62 : decode cX12_again 62 = .ok (.ireturn, 1) := by decide +kernel
theorem dX12_common_0 : decode cX12_common 0 = .ok (.iload_n 0, 1) := by decide +kernel
theorem dX12_common_1 : decode cX12_common 1 = .ok (.invokestatic 335, 3) := by decide +kernel
theorem dX12_common_4 : decode cX12_common 4 = .ok (.istore_n 2, 1) := by decide +kernel
theorem dX12_common_5 : decode cX12_common 5 = .ok (.iload_n 1, 1) := by decide +kernel
theorem dX12_common_6 : decode cX12_common 6 = .ok (.invokestatic 335, 3) := by decide +kernel
theorem dX12_common_9 : decode cX12_common 9 = .ok (.istore_n 3, 1) := by decide +kernel
theorem dX12_common_10 : decode cX12_common 10 = .ok (.iload_n 3, 1) := by decide +kernel
theorem dX12_common_11 : decode cX12_common 11 = .ok (.ifCond .eq 16, 3) := by decide +kernel
theorem dX12_common_14 : decode cX12_common 14 = .ok (.iload_n 2, 1) := by decide +kernel
theorem dX12_common_15 : decode cX12_common 15 = .ok (.iload_n 3, 1) := by decide +kernel
theorem dX12_common_16 : decode cX12_common 16 = .ok (.irem, 1) := by decide +kernel
theorem dX12_common_17 : decode cX12_common 17 = .ok (.istore 4, 2) := by decide +kernel
theorem dX12_common_19 : decode cX12_common 19 = .ok (.iload_n 3, 1) := by decide +kernel
theorem dX12_common_20 : decode cX12_common 20 = .ok (.istore_n 2, 1) := by decide +kernel
theorem dX12_common_21 : decode cX12_common 21 = .ok (.iload 4, 2) := by decide +kernel
theorem dX12_common_23 : decode cX12_common 23 = .ok (.istore_n 3, 1) := by decide +kernel
theorem dX12_common_24 : decode cX12_common 24 = .ok (.goto (-14), 3) := by decide +kernel
theorem dX12_common_27 : decode cX12_common 27 = .ok (.iload_n 2, 1) := by decide +kernel
theorem dX12_common_28 : decode cX12_common 28 = .ok (.ireturn, 1) := by decide +kernel
theorem dX12_falls_0 : decode cX12_falls 0 = .ok (.aload_n 0, 1) := by decide +kernel
theorem dX12_falls_1 : decode cX12_falls 1 = .ok (.iload_n 1, 1) := by decide +kernel
theorem dX12_falls_2 : decode cX12_falls 2 = .ok (.aload_n 0, 1) := by decide +kernel
theorem dX12_falls_3 : decode cX12_falls 3 = .ok (.getfield 33, 3) := by decide +kernel
theorem dX12_falls_6 : decode cX12_falls 6 = .ok (.bipush 13, 2) := by decide +kernel
theorem dX12_falls_8 : decode cX12_falls 8 = .ok (.iaload, 1) := by decide +kernel
theorem dX12_falls_9 : decode cX12_falls 9 = .ok (.invokevirtual 307, 3) := by decide +kernel
theorem dX12_falls_12 : decode cX12_falls 12 = .ok (.istore_n 2, 1) := by decide +kernel
theorem dX12_falls_13 : decode cX12_falls 13 = .ok (.iload_n 2, 1) := by decide +kernel
theorem dX12_falls_14 : decode cX12_falls 14 = .ok (.istore_n 3, 1) := by decide +kernel
theorem dX12_falls_15 : decode cX12_falls 15 = .ok (.iload_n 2, 1) := by decide +kernel
theorem dX12_falls_16 : decode cX12_falls 16 = .ok (.istore 4, 2) := by decide +kernel
theorem dX12_falls_18 : decode cX12_falls 18 = .ok (.iload 4, 2) := by decide +kernel
theorem dX12_falls_20 : decode cX12_falls 20 = .ok (.ifCond .lt 18, 3) := by decide +kernel
theorem dX12_falls_23 : decode cX12_falls 23 = .ok (.iload 4, 2) := by decide +kernel
theorem dX12_falls_25 : decode cX12_falls 25 = .ok (.istore_n 3, 1) := by decide +kernel
theorem dX12_falls_26 : decode cX12_falls 26 = .ok (.aload_n 0, 1) := by decide +kernel
theorem dX12_falls_27 : decode cX12_falls 27 = .ok (.iload_n 1, 1) := by decide +kernel
theorem dX12_falls_28 : decode cX12_falls 28 = .ok (.iload 4, 2) := by decide +kernel
theorem dX12_falls_30 : decode cX12_falls 30 = .ok (.invokevirtual 307, 3) := by decide +kernel
theorem dX12_falls_33 : decode cX12_falls 33 = .ok (.istore 4, 2) := by decide +kernel
theorem dX12_falls_35 : decode cX12_falls 35 = .ok (.goto (-17), 3) := by decide +kernel
theorem dX12_falls_38 : decode cX12_falls 38 = .ok (.iload_n 2, 1) := by decide +kernel
theorem dX12_falls_39 : decode cX12_falls 39 = .ok (.ifCond .lt 8, 3) := by decide +kernel
theorem dX12_falls_42 : decode cX12_falls 42 = .ok (.iload_n 3, 1) := by decide +kernel
theorem dX12_falls_43 : decode cX12_falls 43 = .ok (.iload_n 2, 1) := by decide +kernel
theorem dX12_falls_44 : decode cX12_falls 44 = .ok (.if_icmp .ne 5, 3) := by decide +kernel
theorem dX12_falls_47 : decode cX12_falls 47 = .ok (.iconst 0, 1) := by decide +kernel
theorem dX12_falls_48 : decode cX12_falls 48 = .ok (.ireturn, 1) := by decide +kernel
theorem dX12_falls_49 : decode cX12_falls 49 = .ok (.aload_n 0, 1) := by decide +kernel
theorem dX12_falls_50 : decode cX12_falls 50 = .ok (.aload_n 0, 1) := by decide +kernel
theorem dX12_falls_51 : decode cX12_falls 51 = .ok (.getfield 33, 3) := by decide +kernel
theorem dX12_falls_54 : decode cX12_falls 54 = .ok (.sipush 877, 3) := by decide +kernel
theorem dX12_falls_57 : decode cX12_falls 57 = .ok (.iconst 4, 1) := by decide +kernel
theorem dX12_falls_58 : decode cX12_falls 58 = .ok (.iload_n 3, 1) := by decide +kernel
theorem dX12_falls_59 : decode cX12_falls 59 = .ok (.imul, 1) := by decide +kernel
theorem dX12_falls_60 : decode cX12_falls 60 = .ok (.iadd, 1) := by decide +kernel
theorem dX12_falls_61 : decode cX12_falls 61 = .ok (.iconst 2, 1) := by decide +kernel
theorem dX12_falls_62 : decode cX12_falls 62 = .ok (.iadd, 1) := by decide +kernel
theorem dX12_falls_63 : decode cX12_falls 63 = .ok (.iaload, 1) := by decide +kernel
theorem dX12_falls_64 : decode cX12_falls 64 = .ok (.aload_n 0, 1) := by decide +kernel
theorem dX12_falls_65 : decode cX12_falls 65 = .ok (.getfield 33, 3) := by decide +kernel
theorem dX12_falls_68 : decode cX12_falls 68 = .ok (.sipush 877, 3) := by decide +kernel
theorem dX12_falls_71 : decode cX12_falls 71 = .ok (.iconst 4, 1) := by decide +kernel
theorem dX12_falls_72 : decode cX12_falls 72 = .ok (.iload_n 2, 1) := by decide +kernel
theorem dX12_falls_73 : decode cX12_falls 73 = .ok (.imul, 1) := by decide +kernel
theorem dX12_falls_74 : decode cX12_falls 74 = .ok (.iadd, 1) := by decide +kernel
theorem dX12_falls_75 : decode cX12_falls 75 = .ok (.iconst 2, 1) := by decide +kernel
theorem dX12_falls_76 : decode cX12_falls 76 = .ok (.iadd, 1) := by decide +kernel
theorem dX12_falls_77 : decode cX12_falls 77 = .ok (.iaload, 1) := by decide +kernel
theorem dX12_falls_78 : decode cX12_falls 78 = .ok (.isub, 1) := by decide +kernel
theorem dX12_falls_79 : decode cX12_falls 79 = .ok (.putfield 338, 3) := by decide +kernel
theorem dX12_falls_82 : decode cX12_falls 82 = .ok (.aload_n 0, 1) := by decide +kernel
theorem dX12_falls_83 : decode cX12_falls 83 = .ok (.aload_n 0, 1) := by decide +kernel
theorem dX12_falls_84 : decode cX12_falls 84 = .ok (.getfield 33, 3) := by decide +kernel
theorem dX12_falls_87 : decode cX12_falls 87 = .ok (.sipush 877, 3) := by decide +kernel
theorem dX12_falls_90 : decode cX12_falls 90 = .ok (.iconst 4, 1) := by decide +kernel
theorem dX12_falls_91 : decode cX12_falls 91 = .ok (.iload_n 2, 1) := by decide +kernel
theorem dX12_falls_92 : decode cX12_falls 92 = .ok (.imul, 1) := by decide +kernel
theorem dX12_falls_93 : decode cX12_falls 93 = .ok (.iadd, 1) := by decide +kernel
theorem dX12_falls_94 : decode cX12_falls 94 = .ok (.iconst 1, 1) := by decide +kernel
theorem dX12_falls_95 : decode cX12_falls 95 = .ok (.iadd, 1) := by decide +kernel
theorem dX12_falls_96 : decode cX12_falls 96 = .ok (.iaload, 1) := by decide +kernel
theorem dX12_falls_97 : decode cX12_falls 97 = .ok (.aload_n 0, 1) := by decide +kernel
theorem dX12_falls_98 : decode cX12_falls 98 = .ok (.getfield 33, 3) := by decide +kernel
theorem dX12_falls_101 : decode cX12_falls 101 = .ok (.sipush 877, 3) := by decide +kernel
theorem dX12_falls_104 : decode cX12_falls 104 = .ok (.iconst 4, 1) := by decide +kernel
theorem dX12_falls_105 : decode cX12_falls 105 = .ok (.iload_n 3, 1) := by decide +kernel
theorem dX12_falls_106 : decode cX12_falls 106 = .ok (.imul, 1) := by decide +kernel
theorem dX12_falls_107 : decode cX12_falls 107 = .ok (.iadd, 1) := by decide +kernel
theorem dX12_falls_108 : decode cX12_falls 108 = .ok (.iconst 1, 1) := by decide +kernel
theorem dX12_falls_109 : decode cX12_falls 109 = .ok (.iadd, 1) := by decide +kernel
theorem dX12_falls_110 : decode cX12_falls 110 = .ok (.iaload, 1) := by decide +kernel
theorem dX12_falls_111 : decode cX12_falls 111 = .ok (.isub, 1) := by decide +kernel
theorem dX12_falls_112 : decode cX12_falls 112 = .ok (.putfield 341, 3) := by decide +kernel
theorem dX12_falls_115 : decode cX12_falls 115 = .ok (.iconst 1, 1) := by decide +kernel
theorem dX12_falls_116 : decode cX12_falls 116 = .ok (.ireturn, 1) := by decide +kernel
theorem dX12_fall_0 : decode cX12_fall 0 = .ok (.aload_n 0, 1) := by decide +kernel
theorem dX12_fall_1 : decode cX12_fall 1 = .ok (.aload_n 0, 1) := by decide +kernel
theorem dX12_fall_2 : decode cX12_fall 2 = .ok (.iload_n 1, 1) := by decide +kernel
theorem dX12_fall_3 : decode cX12_fall 3 = .ok (.invokevirtual 304, 3) := by decide +kernel
theorem dX12_fall_6 : decode cX12_fall 6 = .ok (.ifCond .eq 20, 3) := by decide +kernel
theorem dX12_fall_9 : decode cX12_fall 9 = .ok (.iload_n 2, 1) := by decide +kernel
theorem dX12_fall_10 : decode cX12_fall 10 = .ok (.iconst 0, 1) := by decide +kernel
theorem dX12_fall_11 : decode cX12_fall 11 = .ok (.iconst 1, 1) := by decide +kernel
theorem dX12_fall_12 : decode cX12_fall 12 = .ok (.invokestatic 262, 3) := by decide +kernel
theorem dX12_fall_15 : decode cX12_fall 15 = .ok (.ifCond .eq 11, 3) := by decide +kernel
theorem dX12_fall_18 : decode cX12_fall 18 = .ok (.aload_n 0, 1) := by decide +kernel
theorem dX12_fall_19 : decode cX12_fall 19 = .ok (.iload_n 1, 1) := by decide +kernel
theorem dX12_fall_20 : decode cX12_fall 20 = .ok (.invokevirtual 344, 3) := by decide +kernel
theorem dX12_fall_23 : decode cX12_fall 23 = .ok (.ifCond .ne 7, 3) := by decide +kernel
theorem dX12_fall_26 : decode cX12_fall 26 = .ok (.iconst 1, 1) := by decide +kernel
theorem dX12_fall_27 : decode cX12_fall 27 = .ok (.goto 4, 3) := by decide +kernel
theorem dX12_fall_30 : decode cX12_fall 30 = .ok (.iconst 0, 1) := by decide +kernel
theorem dX12_fall_31 : decode cX12_fall 31 = .ok (.invokevirtual 320, 3) := by decide +kernel
theorem dX12_fall_34 : decode cX12_fall 34 = .ok (.ifCond .eq 5, 3) := by decide +kernel
theorem dX12_fall_37 : decode cX12_fall 37 = .ok (.iconst 0, 1) := by decide +kernel
theorem dX12_fall_38 : decode cX12_fall 38 = .ok (.ireturn, 1) := by decide +kernel
theorem dX12_fall_39 : decode cX12_fall 39 = .ok (.iload_n 2, 1) := by decide +kernel
theorem dX12_fall_40 : decode cX12_fall 40 = .ok (.ifCond .ne 10, 3) := by decide +kernel
theorem dX12_fall_43 : decode cX12_fall 43 = .ok (.aload_n 0, 1) := by decide +kernel
theorem dX12_fall_44 : decode cX12_fall 44 = .ok (.getfield 338, 3) := by decide +kernel
theorem dX12_fall_47 : decode cX12_fall 47 = .ok (.goto 7, 3) := by decide +kernel
theorem dX12_fall_50 : decode cX12_fall 50 = .ok (.aload_n 0, 1) := by decide +kernel
theorem dX12_fall_51 : decode cX12_fall 51 = .ok (.getfield 341, 3) := by decide +kernel
theorem dX12_fall_54 : decode cX12_fall 54 = .ok (.aload_n 0, 1) := by decide +kernel
theorem dX12_fall_55 : decode cX12_fall 55 = .ok (.getfield 338, 3) := by decide +kernel
theorem dX12_fall_58 : decode cX12_fall 58 = .ok (.aload_n 0, 1) := by decide +kernel
theorem dX12_fall_59 : decode cX12_fall 59 = .ok (.getfield 341, 3) := by decide +kernel
theorem dX12_fall_62 : decode cX12_fall 62 = .ok (.invokestatic 347, 3) := by decide +kernel
theorem dX12_fall_65 : decode cX12_fall 65 = .ok (.idiv, 1) := by decide +kernel
theorem dX12_fall_66 : decode cX12_fall 66 = .ok (.ireturn, 1) := by decide +kernel
theorem dX12_liesOf_0 : decode cX12_liesOf 0 = .ok (.aload_n 0, 1) := by decide +kernel
theorem dX12_liesOf_1 : decode cX12_liesOf 1 = .ok (.iload_n 1, 1) := by decide +kernel
theorem dX12_liesOf_2 : decode cX12_liesOf 2 = .ok (.invokevirtual 344, 3) := by decide +kernel
theorem dX12_liesOf_5 : decode cX12_liesOf 5 = .ok (.ifCond .eq 26, 3) := by decide +kernel
theorem dX12_liesOf_8 : decode cX12_liesOf 8 = .ok (.aload_n 0, 1) := by decide +kernel
theorem dX12_liesOf_9 : decode cX12_liesOf 9 = .ok (.getfield 338, 3) := by decide +kernel
theorem dX12_liesOf_12 : decode cX12_liesOf 12 = .ok (.aload_n 0, 1) := by decide +kernel
theorem dX12_liesOf_13 : decode cX12_liesOf 13 = .ok (.getfield 33, 3) := by decide +kernel
theorem dX12_liesOf_16 : decode cX12_liesOf 16 = .ok (.bipush 8, 2) := by decide +kernel
theorem dX12_liesOf_18 : decode cX12_liesOf 18 = .ok (.iaload, 1) := by decide +kernel
theorem dX12_liesOf_19 : decode cX12_liesOf 19 = .ok (.aload_n 0, 1) := by decide +kernel
theorem dX12_liesOf_20 : decode cX12_liesOf 20 = .ok (.getfield 341, 3) := by decide +kernel
theorem dX12_liesOf_23 : decode cX12_liesOf 23 = .ok (.imul, 1) := by decide +kernel
theorem dX12_liesOf_24 : decode cX12_liesOf 24 = .ok (.if_icmp .le 7, 3) := by decide +kernel
theorem dX12_liesOf_27 : decode cX12_liesOf 27 = .ok (.iconst 1, 1) := by decide +kernel
theorem dX12_liesOf_28 : decode cX12_liesOf 28 = .ok (.goto 4, 3) := by decide +kernel
theorem dX12_liesOf_31 : decode cX12_liesOf 31 = .ok (.iconst 0, 1) := by decide +kernel
theorem dX12_liesOf_32 : decode cX12_liesOf 32 = .ok (.istore_n 2, 1) := by decide +kernel
theorem dX12_liesOf_33 : decode cX12_liesOf 33 = .ok (.aload_n 0, 1) := by decide +kernel
theorem dX12_liesOf_34 : decode cX12_liesOf 34 = .ok (.iload_n 1, 1) := by decide +kernel
theorem dX12_liesOf_35 : decode cX12_liesOf 35 = .ok (.aload_n 0, 1) := by decide +kernel
theorem dX12_liesOf_36 : decode cX12_liesOf 36 = .ok (.getfield 33, 3) := by decide +kernel
theorem dX12_liesOf_39 : decode cX12_liesOf 39 = .ok (.bipush 13, 2) := by decide +kernel
theorem dX12_liesOf_41 : decode cX12_liesOf 41 = .ok (.iaload, 1) := by decide +kernel
theorem dX12_liesOf_42 : decode cX12_liesOf 42 = .ok (.invokevirtual 307, 3) := by decide +kernel
theorem dX12_liesOf_45 : decode cX12_liesOf 45 = .ok (.istore_n 3, 1) := by decide +kernel
theorem dX12_liesOf_46 : decode cX12_liesOf 46 = .ok (.iload_n 3, 1) := by decide +kernel
theorem dX12_liesOf_47 : decode cX12_liesOf 47 = .ok (.ifCond .lt 144, 3) := by decide +kernel
theorem dX12_liesOf_50 : decode cX12_liesOf 50 = .ok (.iload_n 2, 1) := by decide +kernel
theorem dX12_liesOf_51 : decode cX12_liesOf 51 = .ok (.aload_n 0, 1) := by decide +kernel
theorem dX12_liesOf_52 : decode cX12_liesOf 52 = .ok (.getfield 33, 3) := by decide +kernel
theorem dX12_liesOf_55 : decode cX12_liesOf 55 = .ok (.sipush 877, 3) := by decide +kernel
theorem dX12_liesOf_58 : decode cX12_liesOf 58 = .ok (.iconst 4, 1) := by decide +kernel
theorem dX12_liesOf_59 : decode cX12_liesOf 59 = .ok (.iload_n 3, 1) := by decide +kernel
theorem dX12_liesOf_60 : decode cX12_liesOf 60 = .ok (.imul, 1) := by decide +kernel
theorem dX12_liesOf_61 : decode cX12_liesOf 61 = .ok (.iadd, 1) := by decide +kernel
theorem dX12_liesOf_62 : decode cX12_liesOf 62 = .ok (.iconst 3, 1) := by decide +kernel
theorem dX12_liesOf_63 : decode cX12_liesOf 63 = .ok (.iadd, 1) := by decide +kernel
theorem dX12_liesOf_64 : decode cX12_liesOf 64 = .ok (.iaload, 1) := by decide +kernel
theorem dX12_liesOf_65 : decode cX12_liesOf 65 = .ok (.aload_n 0, 1) := by decide +kernel
theorem dX12_liesOf_66 : decode cX12_liesOf 66 = .ok (.getfield 33, 3) := by decide +kernel
theorem dX12_liesOf_69 : decode cX12_liesOf 69 = .ok (.bipush 10, 2) := by decide +kernel
theorem dX12_liesOf_71 : decode cX12_liesOf 71 = .ok (.iaload, 1) := by decide +kernel
theorem dX12_liesOf_72 : decode cX12_liesOf 72 = .ok (.if_icmp .lt 7, 3) := by decide +kernel
theorem dX12_liesOf_75 : decode cX12_liesOf 75 = .ok (.iconst 4, 1) := by decide +kernel
theorem dX12_liesOf_76 : decode cX12_liesOf 76 = .ok (.goto 4, 3) := by decide +kernel
theorem dX12_liesOf_79 : decode cX12_liesOf 79 = .ok (.iconst 0, 1) := by decide +kernel
theorem dX12_liesOf_80 : decode cX12_liesOf 80 = .ok (.ior, 1) := by decide +kernel
theorem dX12_liesOf_81 : decode cX12_liesOf 81 = .ok (.istore_n 2, 1) := by decide +kernel
theorem dX12_liesOf_82 : decode cX12_liesOf 82 = .ok (.aload_n 0, 1) := by decide +kernel
theorem dX12_liesOf_83 : decode cX12_liesOf 83 = .ok (.iload_n 1, 1) := by decide +kernel
theorem dX12_liesOf_84 : decode cX12_liesOf 84 = .ok (.iload_n 3, 1) := by decide +kernel
theorem dX12_liesOf_85 : decode cX12_liesOf 85 = .ok (.invokevirtual 307, 3) := by decide +kernel
theorem dX12_liesOf_88 : decode cX12_liesOf 88 = .ok (.istore 4, 2) := by decide +kernel
theorem dX12_liesOf_90 : decode cX12_liesOf 90 = .ok (.iload 4, 2) := by decide +kernel
theorem dX12_liesOf_92 : decode cX12_liesOf 92 = .ok (.ifCond .ge 6, 3) := by decide +kernel
theorem dX12_liesOf_95 : decode cX12_liesOf 95 = .ok (.goto 86, 3) := by decide +kernel
theorem dX12_liesOf_98 : decode cX12_liesOf 98 = .ok (.aload_n 0, 1) := by decide +kernel
theorem dX12_liesOf_99 : decode cX12_liesOf 99 = .ok (.getfield 33, 3) := by decide +kernel
theorem dX12_liesOf_102 : decode cX12_liesOf 102 = .ok (.sipush 877, 3) := by decide +kernel
theorem dX12_liesOf_105 : decode cX12_liesOf 105 = .ok (.iconst 4, 1) := by decide +kernel
theorem dX12_liesOf_106 : decode cX12_liesOf 106 = .ok (.iload 4, 2) := by decide +kernel
theorem dX12_liesOf_108 : decode cX12_liesOf 108 = .ok (.imul, 1) := by decide +kernel
theorem dX12_liesOf_109 : decode cX12_liesOf 109 = .ok (.iadd, 1) := by decide +kernel
theorem dX12_liesOf_110 : decode cX12_liesOf 110 = .ok (.iconst 2, 1) := by decide +kernel
theorem dX12_liesOf_111 : decode cX12_liesOf 111 = .ok (.iadd, 1) := by decide +kernel
theorem dX12_liesOf_112 : decode cX12_liesOf 112 = .ok (.iaload, 1) := by decide +kernel
theorem dX12_liesOf_113 : decode cX12_liesOf 113 = .ok (.aload_n 0, 1) := by decide +kernel
theorem dX12_liesOf_114 : decode cX12_liesOf 114 = .ok (.getfield 33, 3) := by decide +kernel
theorem dX12_liesOf_117 : decode cX12_liesOf 117 = .ok (.sipush 877, 3) := by decide +kernel
theorem dX12_liesOf_120 : decode cX12_liesOf 120 = .ok (.iconst 4, 1) := by decide +kernel
theorem dX12_liesOf_121 : decode cX12_liesOf 121 = .ok (.iload_n 3, 1) := by decide +kernel
theorem dX12_liesOf_122 : decode cX12_liesOf 122 = .ok (.imul, 1) := by decide +kernel
theorem dX12_liesOf_123 : decode cX12_liesOf 123 = .ok (.iadd, 1) := by decide +kernel
theorem dX12_liesOf_124 : decode cX12_liesOf 124 = .ok (.iconst 2, 1) := by decide +kernel
theorem dX12_liesOf_125 : decode cX12_liesOf 125 = .ok (.iadd, 1) := by decide +kernel
theorem dX12_liesOf_126 : decode cX12_liesOf 126 = .ok (.iaload, 1) := by decide +kernel
theorem dX12_liesOf_127 : decode cX12_liesOf 127 = .ok (.isub, 1) := by decide +kernel
theorem dX12_liesOf_128 : decode cX12_liesOf 128 = .ok (.istore 5, 2) := by decide +kernel
theorem dX12_liesOf_130 : decode cX12_liesOf 130 = .ok (.iload_n 2, 1) := by decide +kernel
theorem dX12_liesOf_131 : decode cX12_liesOf 131 = .ok (.iload 5, 2) := by decide +kernel
theorem dX12_liesOf_133 : decode cX12_liesOf 133 = .ok (.aload_n 0, 1) := by decide +kernel
theorem dX12_liesOf_134 : decode cX12_liesOf 134 = .ok (.getfield 33, 3) := by decide +kernel
theorem dX12_liesOf_137 : decode cX12_liesOf 137 = .ok (.bipush 9, 2) := by decide +kernel
theorem dX12_liesOf_139 : decode cX12_liesOf 139 = .ok (.iaload, 1) := by decide +kernel
theorem dX12_liesOf_140 : decode cX12_liesOf 140 = .ok (.aload_n 0, 1) := by decide +kernel
theorem dX12_liesOf_141 : decode cX12_liesOf 141 = .ok (.getfield 33, 3) := by decide +kernel
theorem dX12_liesOf_144 : decode cX12_liesOf 144 = .ok (.sipush 877, 3) := by decide +kernel
theorem dX12_liesOf_147 : decode cX12_liesOf 147 = .ok (.iconst 4, 1) := by decide +kernel
theorem dX12_liesOf_148 : decode cX12_liesOf 148 = .ok (.iload_n 3, 1) := by decide +kernel
theorem dX12_liesOf_149 : decode cX12_liesOf 149 = .ok (.imul, 1) := by decide +kernel
theorem dX12_liesOf_150 : decode cX12_liesOf 150 = .ok (.iadd, 1) := by decide +kernel
theorem dX12_liesOf_151 : decode cX12_liesOf 151 = .ok (.iconst 1, 1) := by decide +kernel
theorem dX12_liesOf_152 : decode cX12_liesOf 152 = .ok (.iadd, 1) := by decide +kernel
theorem dX12_liesOf_153 : decode cX12_liesOf 153 = .ok (.iaload, 1) := by decide +kernel
theorem dX12_liesOf_154 : decode cX12_liesOf 154 = .ok (.aload_n 0, 1) := by decide +kernel
theorem dX12_liesOf_155 : decode cX12_liesOf 155 = .ok (.getfield 33, 3) := by decide +kernel
theorem dX12_liesOf_158 : decode cX12_liesOf 158 = .ok (.sipush 877, 3) := by decide +kernel
theorem dX12_liesOf_161 : decode cX12_liesOf 161 = .ok (.iconst 4, 1) := by decide +kernel
theorem dX12_liesOf_162 : decode cX12_liesOf 162 = .ok (.iload 4, 2) := by decide +kernel
theorem dX12_liesOf_164 : decode cX12_liesOf 164 = .ok (.imul, 1) := by decide +kernel
theorem dX12_liesOf_165 : decode cX12_liesOf 165 = .ok (.iadd, 1) := by decide +kernel
theorem dX12_liesOf_166 : decode cX12_liesOf 166 = .ok (.iconst 1, 1) := by decide +kernel
theorem dX12_liesOf_167 : decode cX12_liesOf 167 = .ok (.iadd, 1) := by decide +kernel
theorem dX12_liesOf_168 : decode cX12_liesOf 168 = .ok (.iaload, 1) := by decide +kernel
theorem dX12_liesOf_169 : decode cX12_liesOf 169 = .ok (.isub, 1) := by decide +kernel
theorem dX12_liesOf_170 : decode cX12_liesOf 170 = .ok (.imul, 1) := by decide +kernel
theorem dX12_liesOf_171 : decode cX12_liesOf 171 = .ok (.if_icmp .le 7, 3) := by decide +kernel
theorem dX12_liesOf_174 : decode cX12_liesOf 174 = .ok (.iconst 2, 1) := by decide +kernel
theorem dX12_liesOf_175 : decode cX12_liesOf 175 = .ok (.goto 4, 3) := by decide +kernel
theorem dX12_liesOf_178 : decode cX12_liesOf 178 = .ok (.iconst 0, 1) := by decide +kernel
theorem dX12_liesOf_179 : decode cX12_liesOf 179 = .ok (.ior, 1) := by decide +kernel
theorem dX12_liesOf_180 : decode cX12_liesOf 180 = .ok (.istore_n 2, 1) := by decide +kernel
theorem dX12_liesOf_181 : decode cX12_liesOf 181 = .ok (.aload_n 0, 1) := by decide +kernel
theorem dX12_liesOf_182 : decode cX12_liesOf 182 = .ok (.iload_n 1, 1) := by decide +kernel
theorem dX12_liesOf_183 : decode cX12_liesOf 183 = .ok (.iload_n 3, 1) := by decide +kernel
theorem dX12_liesOf_184 : decode cX12_liesOf 184 = .ok (.invokevirtual 307, 3) := by decide +kernel
theorem dX12_liesOf_187 : decode cX12_liesOf 187 = .ok (.istore_n 3, 1) := by decide +kernel
theorem dX12_liesOf_188 : decode cX12_liesOf 188 = .ok (.goto (-142), 3) := by decide +kernel
theorem dX12_liesOf_191 : decode cX12_liesOf 191 = .ok (.iload_n 2, 1) := by decide +kernel
theorem dX12_liesOf_192 : decode cX12_liesOf 192 = .ok (.ireturn, 1) := by decide +kernel
theorem dX12_lies_0 : decode cX12_lies 0 = .ok (.aload_n 0, 1) := by decide +kernel
theorem dX12_lies_1 : decode cX12_lies 1 = .ok (.iconst 0, 1) := by decide +kernel
theorem dX12_lies_2 : decode cX12_lies 2 = .ok (.putfield 1, 3) := by decide +kernel
theorem dX12_lies_5 : decode cX12_lies 5 = .ok (.aload_n 0, 1) := by decide +kernel
theorem dX12_lies_6 : decode cX12_lies 6 = .ok (.iload_n 1, 1) := by decide +kernel
theorem dX12_lies_7 : decode cX12_lies 7 = .ok (.invokevirtual 304, 3) := by decide +kernel
theorem dX12_lies_10 : decode cX12_lies 10 = .ok (.ifCond .eq 11, 3) := by decide +kernel
theorem dX12_lies_13 : decode cX12_lies 13 = .ok (.aload_n 0, 1) := by decide +kernel
theorem dX12_lies_14 : decode cX12_lies 14 = .ok (.iload_n 1, 1) := by decide +kernel
theorem dX12_lies_15 : decode cX12_lies 15 = .ok (.invokevirtual 350, 3) := by decide +kernel
theorem dX12_lies_18 : decode cX12_lies 18 = .ok (.goto 4, 3) := by decide +kernel
theorem dX12_lies_21 : decode cX12_lies 21 = .ok (.iconst (-1), 1) := by decide +kernel
theorem dX12_lies_22 : decode cX12_lies 22 = .ok (.ireturn, 1) := by decide +kernel
theorem dX12_days_0 : decode cX12_days 0 = .ok (.aload_n 0, 1) := by decide +kernel
theorem dX12_days_1 : decode cX12_days 1 = .ok (.iconst 0, 1) := by decide +kernel
theorem dX12_days_2 : decode cX12_days 2 = .ok (.putfield 1, 3) := by decide +kernel
theorem dX12_days_5 : decode cX12_days 5 = .ok (.iload_n 1, 1) := by decide +kernel
theorem dX12_days_6 : decode cX12_days 6 = .ok (.iconst 1, 1) := by decide +kernel
theorem dX12_days_7 : decode cX12_days 7 = .ok (.bipush 99, 2) := by decide +kernel
theorem dX12_days_9 : decode cX12_days 9 = .ok (.invokestatic 262, 3) := by decide +kernel
theorem dX12_days_12 : decode cX12_days 12 = .ok (.ifCond .eq 19, 3) := by decide +kernel
theorem dX12_days_15 : decode cX12_days 15 = .ok (.iconst 2, 1) := by decide +kernel
theorem dX12_days_16 : decode cX12_days 16 = .ok (.aload_n 0, 1) := by decide +kernel
theorem dX12_days_17 : decode cX12_days 17 = .ok (.getfield 33, 3) := by decide +kernel
theorem dX12_days_20 : decode cX12_days 20 = .ok (.bipush 7, 2) := by decide +kernel
theorem dX12_days_22 : decode cX12_days 22 = .ok (.iaload, 1) := by decide +kernel
theorem dX12_days_23 : decode cX12_days 23 = .ok (.imul, 1) := by decide +kernel
theorem dX12_days_24 : decode cX12_days 24 = .ok (.iload_n 1, 1) := by decide +kernel
theorem dX12_days_25 : decode cX12_days 25 = .ok (.idiv, 1) := by decide +kernel
theorem dX12_days_26 : decode cX12_days 26 = .ok (.iconst 1, 1) := by decide +kernel
theorem dX12_days_27 : decode cX12_days 27 = .ok (.iadd, 1) := by decide +kernel
theorem dX12_days_28 : decode cX12_days 28 = .ok (.goto 4, 3) := by decide +kernel
theorem dX12_days_31 : decode cX12_days 31 = .ok (.iconst (-1), 1) := by decide +kernel
theorem dX12_days_32 : decode cX12_days 32 = .ok (.ireturn, 1) := by decide +kernel
theorem dX12_write_0 : decode cX12_write 0 = .ok (.aload_n 0, 1) := by decide +kernel
theorem dX12_write_1 : decode cX12_write 1 = .ok (.getfield 72, 3) := by decide +kernel
theorem dX12_write_4 : decode cX12_write 4 = .ok (.iconst 3, 1) := by decide +kernel
theorem dX12_write_5 : decode cX12_write 5 = .ok (.aload_n 0, 1) := by decide +kernel
theorem dX12_write_6 : decode cX12_write 6 = .ok (.getfield 353, 3) := by decide +kernel
theorem dX12_write_9 : decode cX12_write 9 = .ok (.imul, 1) := by decide +kernel
theorem dX12_write_10 : decode cX12_write 10 = .ok (.iload_n 1, 1) := by decide +kernel
theorem dX12_write_11 : decode cX12_write 11 = .ok (.iastore, 1) := by decide +kernel
theorem dX12_write_12 : decode cX12_write 12 = .ok (.aload_n 0, 1) := by decide +kernel
theorem dX12_write_13 : decode cX12_write 13 = .ok (.getfield 72, 3) := by decide +kernel
theorem dX12_write_16 : decode cX12_write 16 = .ok (.iconst 3, 1) := by decide +kernel
theorem dX12_write_17 : decode cX12_write 17 = .ok (.aload_n 0, 1) := by decide +kernel
theorem dX12_write_18 : decode cX12_write 18 = .ok (.getfield 353, 3) := by decide +kernel
theorem dX12_write_21 : decode cX12_write 21 = .ok (.imul, 1) := by decide +kernel
theorem dX12_write_22 : decode cX12_write 22 = .ok (.iconst 1, 1) := by decide +kernel
theorem dX12_write_23 : decode cX12_write 23 = .ok (.iadd, 1) := by decide +kernel
theorem dX12_write_24 : decode cX12_write 24 = .ok (.iload_n 2, 1) := by decide +kernel
theorem dX12_write_25 : decode cX12_write 25 = .ok (.iastore, 1) := by decide +kernel
theorem dX12_write_26 : decode cX12_write 26 = .ok (.aload_n 0, 1) := by decide +kernel
theorem dX12_write_27 : decode cX12_write 27 = .ok (.getfield 72, 3) := by decide +kernel
theorem dX12_write_30 : decode cX12_write 30 = .ok (.iconst 3, 1) := by decide +kernel
theorem dX12_write_31 : decode cX12_write 31 = .ok (.aload_n 0, 1) := by decide +kernel
theorem dX12_write_32 : decode cX12_write 32 = .ok (.getfield 353, 3) := by decide +kernel
theorem dX12_write_35 : decode cX12_write 35 = .ok (.imul, 1) := by decide +kernel
theorem dX12_write_36 : decode cX12_write 36 = .ok (.iconst 2, 1) := by decide +kernel
theorem dX12_write_37 : decode cX12_write 37 = .ok (.iadd, 1) := by decide +kernel
theorem dX12_write_38 : decode cX12_write 38 = .ok (.iload_n 3, 1) := by decide +kernel
theorem dX12_write_39 : decode cX12_write 39 = .ok (.iastore, 1) := by decide +kernel
theorem dX12_write_40 : decode cX12_write 40 = .ok (.aload_n 0, 1) := by decide +kernel
theorem dX12_write_41 : decode cX12_write 41 = .ok (.dup, 1) := by decide +kernel
theorem dX12_write_42 : decode cX12_write 42 = .ok (.getfield 353, 3) := by decide +kernel
theorem dX12_write_45 : decode cX12_write 45 = .ok (.iconst 1, 1) := by decide +kernel
theorem dX12_write_46 : decode cX12_write 46 = .ok (.iadd, 1) := by decide +kernel
theorem dX12_write_47 : decode cX12_write 47 = .ok (.putfield 353, 3) := by decide +kernel
theorem dX12_write_50 : decode cX12_write 50 = .ok (.return_, 1) := by decide +kernel
theorem dX12_writeDown_0 : decode cX12_writeDown 0 = .ok (.aload_n 0, 1) := by decide +kernel
theorem dX12_writeDown_1 : decode cX12_writeDown 1 = .ok (.getfield 356, 3) := by decide +kernel
theorem dX12_writeDown_4 : decode cX12_writeDown 4 = .ok (.ifCond .le 65, 3) := by decide +kernel
theorem dX12_writeDown_7 : decode cX12_writeDown 7 = .ok (.aload_n 0, 1) := by decide +kernel
theorem dX12_writeDown_8 : decode cX12_writeDown 8 = .ok (.getfield 75, 3) := by decide +kernel
theorem dX12_writeDown_11 : decode cX12_writeDown 11 = .ok (.aload_n 0, 1) := by decide +kernel
theorem dX12_writeDown_12 : decode cX12_writeDown 12 = .ok (.getfield 356, 3) := by decide +kernel
theorem dX12_writeDown_15 : decode cX12_writeDown 15 = .ok (.iconst 1, 1) := by decide +kernel
theorem dX12_writeDown_16 : decode cX12_writeDown 16 = .ok (.isub, 1) := by decide +kernel
theorem dX12_writeDown_17 : decode cX12_writeDown 17 = .ok (.iaload, 1) := by decide +kernel
theorem dX12_writeDown_18 : decode cX12_writeDown 18 = .ok (.bipush 10, 2) := by decide +kernel
theorem dX12_writeDown_20 : decode cX12_writeDown 20 = .ok (.if_icmp .eq 49, 3) := by decide +kernel
theorem dX12_writeDown_23 : decode cX12_writeDown 23 = .ok (.aload_n 0, 1) := by decide +kernel
theorem dX12_writeDown_24 : decode cX12_writeDown 24 = .ok (.getfield 75, 3) := by decide +kernel
theorem dX12_writeDown_27 : decode cX12_writeDown 27 = .ok (.aload_n 0, 1) := by decide +kernel
theorem dX12_writeDown_28 : decode cX12_writeDown 28 = .ok (.getfield 356, 3) := by decide +kernel
theorem dX12_writeDown_31 : decode cX12_writeDown 31 = .ok (.iconst 1, 1) := by decide +kernel
theorem dX12_writeDown_32 : decode cX12_writeDown 32 = .ok (.isub, 1) := by decide +kernel
theorem dX12_writeDown_33 : decode cX12_writeDown 33 = .ok (.iaload, 1) := by decide +kernel
theorem dX12_writeDown_34 : decode cX12_writeDown 34 = .ok (.invokestatic 359, 3) := by decide +kernel
theorem dX12_writeDown_37 : decode cX12_writeDown 37 = .ok (.iload_n 1, 1) := by decide +kernel
theorem dX12_writeDown_38 : decode cX12_writeDown 38 = .ok (.if_icmp .lt 31, 3) := by decide +kernel
theorem dX12_writeDown_41 : decode cX12_writeDown 41 = .ok (.aload_n 0, 1) := by decide +kernel
theorem dX12_writeDown_42 : decode cX12_writeDown 42 = .ok (.dup, 1) := by decide +kernel
theorem dX12_writeDown_43 : decode cX12_writeDown 43 = .ok (.getfield 356, 3) := by decide +kernel
theorem dX12_writeDown_46 : decode cX12_writeDown 46 = .ok (.iconst 1, 1) := by decide +kernel
theorem dX12_writeDown_47 : decode cX12_writeDown 47 = .ok (.isub, 1) := by decide +kernel
theorem dX12_writeDown_48 : decode cX12_writeDown 48 = .ok (.putfield 356, 3) := by decide +kernel
theorem dX12_writeDown_51 : decode cX12_writeDown 51 = .ok (.aload_n 0, 1) := by decide +kernel
theorem dX12_writeDown_52 : decode cX12_writeDown 52 = .ok (.aload_n 0, 1) := by decide +kernel
theorem dX12_writeDown_53 : decode cX12_writeDown 53 = .ok (.getfield 75, 3) := by decide +kernel
theorem dX12_writeDown_56 : decode cX12_writeDown 56 = .ok (.aload_n 0, 1) := by decide +kernel
theorem dX12_writeDown_57 : decode cX12_writeDown 57 = .ok (.getfield 356, 3) := by decide +kernel
theorem dX12_writeDown_60 : decode cX12_writeDown 60 = .ok (.iaload, 1) := by decide +kernel
theorem dX12_writeDown_61 : decode cX12_writeDown 61 = .ok (.iconst 0, 1) := by decide +kernel
theorem dX12_writeDown_62 : decode cX12_writeDown 62 = .ok (.iconst 0, 1) := by decide +kernel
theorem dX12_writeDown_63 : decode cX12_writeDown 63 = .ok (.invokevirtual 362, 3) := by decide +kernel
theorem dX12_writeDown_66 : decode cX12_writeDown 66 = .ok (.goto (-66), 3) := by decide +kernel
theorem dX12_writeDown_69 : decode cX12_writeDown 69 = .ok (.return_, 1) := by decide +kernel
theorem dX12_binds_0 : decode cX12_binds 0 = .ok (.iload_n 0, 1) := by decide +kernel
theorem dX12_binds_1 : decode cX12_binds 1 = .ok (.bipush 7, 2) := by decide +kernel
theorem dX12_binds_3 : decode cX12_binds 3 = .ok (.if_icmp .ne 7, 3) := by decide +kernel
theorem dX12_binds_6 : decode cX12_binds 6 = .ok (.iconst 3, 1) := by decide +kernel
theorem dX12_binds_7 : decode cX12_binds 7 = .ok (.goto 14, 3) := by decide +kernel
theorem dX12_binds_10 : decode cX12_binds 10 = .ok (.iload_n 0, 1) := by decide +kernel
theorem dX12_binds_11 : decode cX12_binds 11 = .ok (.bipush 8, 2) := by decide +kernel
theorem dX12_binds_13 : decode cX12_binds 13 = .ok (.if_icmp .ne 7, 3) := by decide +kernel
theorem dX12_binds_16 : decode cX12_binds 16 = .ok (.iconst 2, 1) := by decide +kernel
theorem dX12_binds_17 : decode cX12_binds 17 = .ok (.goto 4, 3) := by decide +kernel
theorem dX12_binds_20 : decode cX12_binds 20 = .ok (.iconst 1, 1) := by decide +kernel
theorem dX12_binds_21 : decode cX12_binds 21 = .ok (.ireturn, 1) := by decide +kernel
theorem dX12_open_0 : decode cX12_open 0 = .ok (.iconst 0, 1) := by decide +kernel
theorem dX12_open_1 : decode cX12_open 1 = .ok (.istore_n 1, 1) := by decide +kernel
theorem dX12_open_2 : decode cX12_open 2 = .ok (.iconst 0, 1) := by decide +kernel
theorem dX12_open_3 : decode cX12_open 3 = .ok (.istore_n 2, 1) := by decide +kernel
theorem dX12_open_4 : decode cX12_open 4 = .ok (.iload_n 2, 1) := by decide +kernel
theorem dX12_open_5 : decode cX12_open 5 = .ok (.aload_n 0, 1) := by decide +kernel
theorem dX12_open_6 : decode cX12_open 6 = .ok (.getfield 356, 3) := by decide +kernel
theorem dX12_open_9 : decode cX12_open 9 = .ok (.if_icmp .ge 39, 3) := by decide +kernel
theorem dX12_open_12 : decode cX12_open 12 = .ok (.iload_n 1, 1) := by decide +kernel
theorem dX12_open_13 : decode cX12_open 13 = .ok (.aload_n 0, 1) := by decide +kernel
theorem dX12_open_14 : decode cX12_open 14 = .ok (.getfield 75, 3) := by decide +kernel
theorem dX12_open_17 : decode cX12_open 17 = .ok (.iload_n 2, 1) := by decide +kernel
theorem dX12_open_18 : decode cX12_open 18 = .ok (.iaload, 1) := by decide +kernel
theorem dX12_open_19 : decode cX12_open 19 = .ok (.bipush 7, 2) := by decide +kernel
theorem dX12_open_21 : decode cX12_open 21 = .ok (.if_icmp .eq 14, 3) := by decide +kernel
theorem dX12_open_24 : decode cX12_open 24 = .ok (.aload_n 0, 1) := by decide +kernel
theorem dX12_open_25 : decode cX12_open 25 = .ok (.getfield 75, 3) := by decide +kernel
theorem dX12_open_28 : decode cX12_open 28 = .ok (.iload_n 2, 1) := by decide +kernel
theorem dX12_open_29 : decode cX12_open 29 = .ok (.iaload, 1) := by decide +kernel
theorem dX12_open_30 : decode cX12_open 30 = .ok (.bipush 10, 2) := by decide +kernel
theorem dX12_open_32 : decode cX12_open 32 = .ok (.if_icmp .ne 7, 3) := by decide +kernel
theorem dX12_open_35 : decode cX12_open 35 = .ok (.iconst 1, 1) := by decide +kernel
theorem dX12_open_36 : decode cX12_open 36 = .ok (.goto 4, 3) := by decide +kernel
theorem dX12_open_39 : decode cX12_open 39 = .ok (.iconst 0, 1) := by decide +kernel
theorem dX12_open_40 : decode cX12_open 40 = .ok (.iadd, 1) := by decide +kernel
theorem dX12_open_41 : decode cX12_open 41 = .ok (.istore_n 1, 1) := by decide +kernel
theorem dX12_open_42 : decode cX12_open 42 = .ok (.iinc 2 1, 3) := by decide +kernel
theorem dX12_open_45 : decode cX12_open 45 = .ok (.goto (-41), 3) := by decide +kernel
theorem dX12_open_48 : decode cX12_open 48 = .ok (.iload_n 1, 1) := by decide +kernel
theorem dX12_open_49 : decode cX12_open 49 = .ok (.ireturn, 1) := by decide +kernel
theorem dX12_isOpen_0 : decode cX12_isOpen 0 = .ok (.iconst 0, 1) := by decide +kernel
theorem dX12_isOpen_1 : decode cX12_isOpen 1 = .ok (.istore_n 1, 1) := by decide +kernel
theorem dX12_isOpen_2 : decode cX12_isOpen 2 = .ok (.iload_n 1, 1) := by decide +kernel
theorem dX12_isOpen_3 : decode cX12_isOpen 3 = .ok (.aload_n 0, 1) := by decide +kernel
theorem dX12_isOpen_4 : decode cX12_isOpen 4 = .ok (.getfield 356, 3) := by decide +kernel
theorem dX12_isOpen_7 : decode cX12_isOpen 7 = .ok (.if_icmp .ge 22, 3) := by decide +kernel
theorem dX12_isOpen_10 : decode cX12_isOpen 10 = .ok (.aload_n 0, 1) := by decide +kernel
theorem dX12_isOpen_11 : decode cX12_isOpen 11 = .ok (.getfield 75, 3) := by decide +kernel
theorem dX12_isOpen_14 : decode cX12_isOpen 14 = .ok (.iload_n 1, 1) := by decide +kernel
theorem dX12_isOpen_15 : decode cX12_isOpen 15 = .ok (.iaload, 1) := by decide +kernel
theorem dX12_isOpen_16 : decode cX12_isOpen 16 = .ok (.bipush 10, 2) := by decide +kernel
theorem dX12_isOpen_18 : decode cX12_isOpen 18 = .ok (.if_icmp .ne 5, 3) := by decide +kernel
theorem dX12_isOpen_21 : decode cX12_isOpen 21 = .ok (.iconst 1, 1) := by decide +kernel
theorem dX12_isOpen_22 : decode cX12_isOpen 22 = .ok (.ireturn, 1) := by decide +kernel
theorem dX12_isOpen_23 : decode cX12_isOpen 23 = .ok (.iinc 1 1, 3) := by decide +kernel
theorem dX12_isOpen_26 : decode cX12_isOpen 26 = .ok (.goto (-24), 3) := by decide +kernel
theorem dX12_isOpen_29 : decode cX12_isOpen 29 = .ok (.iconst 0, 1) := by decide +kernel
theorem dX12_isOpen_30 : decode cX12_isOpen 30 = .ok (.ireturn, 1) := by decide +kernel
theorem dX12_cond_0 : decode cX12_cond 0 = .ok (.aload_n 0, 1) := by decide +kernel
theorem dX12_cond_1 : decode cX12_cond 1 = .ok (.invokevirtual 366, 3) := by decide +kernel
theorem dX12_cond_4 : decode cX12_cond 4 = .ok (.ifCond .ne 5, 3) := by decide +kernel
theorem dX12_cond_7 : decode cX12_cond 7 = .ok (.iconst 0, 1) := by decide +kernel
theorem dX12_cond_8 : decode cX12_cond 8 = .ok (.ireturn, 1) := by decide +kernel
theorem dX12_cond_9 : decode cX12_cond 9 = .ok (.aload_n 0, 1) := by decide +kernel
theorem dX12_cond_10 : decode cX12_cond 10 = .ok (.bipush 41, 2) := by decide +kernel
theorem dX12_cond_12 : decode cX12_cond 12 = .ok (.invokevirtual 253, 3) := by decide +kernel
theorem dX12_cond_15 : decode cX12_cond 15 = .ok (.ifCond .eq 37, 3) := by decide +kernel
theorem dX12_cond_18 : decode cX12_cond 18 = .ok (.aload_n 0, 1) := by decide +kernel
theorem dX12_cond_19 : decode cX12_cond 19 = .ok (.invokevirtual 369, 3) := by decide +kernel
theorem dX12_cond_22 : decode cX12_cond 22 = .ok (.ifCond .eq 30, 3) := by decide +kernel
theorem dX12_cond_25 : decode cX12_cond 25 = .ok (.aload_n 0, 1) := by decide +kernel
theorem dX12_cond_26 : decode cX12_cond 26 = .ok (.iconst 1, 1) := by decide +kernel
theorem dX12_cond_27 : decode cX12_cond 27 = .ok (.invokevirtual 372, 3) := by decide +kernel
theorem dX12_cond_30 : decode cX12_cond 30 = .ok (.aload_n 0, 1) := by decide +kernel
theorem dX12_cond_31 : decode cX12_cond 31 = .ok (.dup, 1) := by decide +kernel
theorem dX12_cond_32 : decode cX12_cond 32 = .ok (.getfield 356, 3) := by decide +kernel
theorem dX12_cond_35 : decode cX12_cond 35 = .ok (.iconst 1, 1) := by decide +kernel
theorem dX12_cond_36 : decode cX12_cond 36 = .ok (.isub, 1) := by decide +kernel
theorem dX12_cond_37 : decode cX12_cond 37 = .ok (.putfield 356, 3) := by decide +kernel
theorem dX12_cond_40 : decode cX12_cond 40 = .ok (.aload_n 0, 1) := by decide +kernel
theorem dX12_cond_41 : decode cX12_cond 41 = .ok (.iconst 3, 1) := by decide +kernel
theorem dX12_cond_42 : decode cX12_cond 42 = .ok (.invokevirtual 372, 3) := by decide +kernel
theorem dX12_cond_45 : decode cX12_cond 45 = .ok (.aload_n 0, 1) := by decide +kernel
theorem dX12_cond_46 : decode cX12_cond 46 = .ok (.invokevirtual 259, 3) := by decide +kernel
theorem dX12_cond_49 : decode cX12_cond 49 = .ok (.goto (-40), 3) := by decide +kernel
theorem dX12_cond_52 : decode cX12_cond 52 = .ok (.aload_n 0, 1) := by decide +kernel
theorem dX12_cond_53 : decode cX12_cond 53 = .ok (.ldc2_w 193, 3) := by decide +kernel
theorem dX12_cond_56 : decode cX12_cond 56 = .ok (.invokevirtual 283, 3) := by decide +kernel
theorem dX12_cond_59 : decode cX12_cond 59 = .ok (.istore_n 1, 1) := by decide +kernel
theorem dX12_cond_60 : decode cX12_cond 60 = .ok (.iload_n 1, 1) := by decide +kernel
theorem dX12_cond_61 : decode cX12_cond 61 = .ok (.ifCond .ne 52, 3) := by decide +kernel
theorem dX12_cond_64 : decode cX12_cond 64 = .ok (.aload_n 0, 1) := by decide +kernel
theorem dX12_cond_65 : decode cX12_cond 65 = .ok (.ldc2_w 191, 3) := by decide +kernel
theorem dX12_cond_68 : decode cX12_cond 68 = .ok (.invokevirtual 283, 3) := by decide +kernel
theorem dX12_cond_71 : decode cX12_cond 71 = .ok (.ifCond .ne 42, 3) := by decide +kernel
theorem dX12_cond_74 : decode cX12_cond 74 = .ok (.aload_n 0, 1) := by decide +kernel
theorem dX12_cond_75 : decode cX12_cond 75 = .ok (.invokevirtual 369, 3) := by decide +kernel
theorem dX12_cond_78 : decode cX12_cond 78 = .ok (.ifCond .eq 9, 3) := by decide +kernel
theorem dX12_cond_81 : decode cX12_cond 81 = .ok (.aload_n 0, 1) := by decide +kernel
theorem dX12_cond_82 : decode cX12_cond 82 = .ok (.iconst 1, 1) := by decide +kernel
theorem dX12_cond_83 : decode cX12_cond 83 = .ok (.invokevirtual 256, 3) := by decide +kernel
theorem dX12_cond_86 : decode cX12_cond 86 = .ok (.ireturn, 1) := by decide +kernel
theorem dX12_cond_87 : decode cX12_cond 87 = .ok (.aload_n 0, 1) := by decide +kernel
theorem dX12_cond_88 : decode cX12_cond 88 = .ok (.iconst 1, 1) := by decide +kernel
theorem dX12_cond_89 : decode cX12_cond 89 = .ok (.invokevirtual 372, 3) := by decide +kernel
theorem dX12_cond_92 : decode cX12_cond 92 = .ok (.aload_n 0, 1) := by decide +kernel
theorem dX12_cond_93 : decode cX12_cond 93 = .ok (.getfield 230, 3) := by decide +kernel
theorem dX12_cond_96 : decode cX12_cond 96 = .ok (.ifCond .eq 11, 3) := by decide +kernel
theorem dX12_cond_99 : decode cX12_cond 99 = .ok (.aload_n 0, 1) := by decide +kernel
theorem dX12_cond_100 : decode cX12_cond 100 = .ok (.iconst 1, 1) := by decide +kernel
theorem dX12_cond_101 : decode cX12_cond 101 = .ok (.invokevirtual 256, 3) := by decide +kernel
theorem dX12_cond_104 : decode cX12_cond 104 = .ok (.ifCond .eq 7, 3) := by decide +kernel
theorem dX12_cond_107 : decode cX12_cond 107 = .ok (.iconst 1, 1) := by decide +kernel
theorem dX12_cond_108 : decode cX12_cond 108 = .ok (.goto 4, 3) := by decide +kernel
theorem dX12_cond_111 : decode cX12_cond 111 = .ok (.iconst 0, 1) := by decide +kernel
theorem dX12_cond_112 : decode cX12_cond 112 = .ok (.ireturn, 1) := by decide +kernel
theorem dX12_cond_113 : decode cX12_cond 113 = .ok (.aload_n 0, 1) := by decide +kernel
theorem dX12_cond_114 : decode cX12_cond 114 = .ok (.iload_n 1, 1) := by decide +kernel
theorem dX12_cond_115 : decode cX12_cond 115 = .ok (.ifCond .eq 7, 3) := by decide +kernel
theorem dX12_cond_118 : decode cX12_cond 118 = .ok (.iconst 2, 1) := by decide +kernel
theorem dX12_cond_119 : decode cX12_cond 119 = .ok (.goto 4, 3) := by decide +kernel
theorem dX12_cond_122 : decode cX12_cond 122 = .ok (.iconst 1, 1) := by decide +kernel
theorem dX12_cond_123 : decode cX12_cond 123 = .ok (.invokevirtual 372, 3) := by decide +kernel
theorem dX12_cond_126 : decode cX12_cond 126 = .ok (.aload_n 0, 1) := by decide +kernel
theorem dX12_cond_127 : decode cX12_cond 127 = .ok (.getfield 75, 3) := by decide +kernel
theorem dX12_cond_130 : decode cX12_cond 130 = .ok (.aload_n 0, 1) := by decide +kernel
theorem dX12_cond_131 : decode cX12_cond 131 = .ok (.getfield 356, 3) := by decide +kernel
theorem dX12_cond_134 : decode cX12_cond 134 = .ok (.iload_n 1, 1) := by decide +kernel
theorem dX12_cond_135 : decode cX12_cond 135 = .ok (.ifCond .eq 8, 3) := by decide +kernel
theorem dX12_cond_138 : decode cX12_cond 138 = .ok (.bipush 8, 2) := by decide +kernel
theorem dX12_cond_140 : decode cX12_cond 140 = .ok (.goto 5, 3) := by decide +kernel
theorem dX12_cond_143 : decode cX12_cond 143 = .ok (.bipush 9, 2) := by decide +kernel
theorem dX12_cond_145 : decode cX12_cond 145 = .ok (.iastore, 1) := by decide +kernel
theorem dX12_cond_146 : decode cX12_cond 146 = .ok (.aload_n 0, 1) := by decide +kernel
theorem dX12_cond_147 : decode cX12_cond 147 = .ok (.dup, 1) := by decide +kernel
theorem dX12_cond_148 : decode cX12_cond 148 = .ok (.getfield 356, 3) := by decide +kernel
theorem dX12_cond_151 : decode cX12_cond 151 = .ok (.iconst 1, 1) := by decide +kernel
theorem dX12_cond_152 : decode cX12_cond 152 = .ok (.iadd, 1) := by decide +kernel
theorem dX12_cond_153 : decode cX12_cond 153 = .ok (.putfield 356, 3) := by decide +kernel
theorem dX12_cond_156 : decode cX12_cond 156 = .ok (.aload_n 0, 1) := by decide +kernel
theorem dX12_cond_157 : decode cX12_cond 157 = .ok (.invokevirtual 259, 3) := by decide +kernel
theorem dX12_cond_160 : decode cX12_cond 160 = .ok (.goto (-160), 3) := by decide +kernel
theorem dX12_atom_0 : decode cX12_atom 0 = .ok (.aload_n 0, 1) := by decide +kernel
theorem dX12_atom_1 : decode cX12_atom 1 = .ok (.ldc2_w 199, 3) := by decide +kernel
theorem dX12_atom_4 : decode cX12_atom 4 = .ok (.invokevirtual 283, 3) := by decide +kernel
theorem dX12_atom_7 : decode cX12_atom 7 = .ok (.ifCond .eq 7, 3) := by decide +kernel
theorem dX12_atom_10 : decode cX12_atom 10 = .ok (.iconst 0, 1) := by decide +kernel
theorem dX12_atom_11 : decode cX12_atom 11 = .ok (.goto 89, 3) := by decide +kernel
theorem dX12_atom_14 : decode cX12_atom 14 = .ok (.aload_n 0, 1) := by decide +kernel
theorem dX12_atom_15 : decode cX12_atom 15 = .ok (.ldc2_w 201, 3) := by decide +kernel
theorem dX12_atom_18 : decode cX12_atom 18 = .ok (.invokevirtual 283, 3) := by decide +kernel
theorem dX12_atom_21 : decode cX12_atom 21 = .ok (.ifCond .eq 7, 3) := by decide +kernel
theorem dX12_atom_24 : decode cX12_atom 24 = .ok (.iconst 1, 1) := by decide +kernel
theorem dX12_atom_25 : decode cX12_atom 25 = .ok (.goto 75, 3) := by decide +kernel
theorem dX12_atom_28 : decode cX12_atom 28 = .ok (.aload_n 0, 1) := by decide +kernel
theorem dX12_atom_29 : decode cX12_atom 29 = .ok (.ldc2_w 197, 3) := by decide +kernel
theorem dX12_atom_32 : decode cX12_atom 32 = .ok (.invokevirtual 283, 3) := by decide +kernel
theorem dX12_atom_35 : decode cX12_atom 35 = .ok (.ifCond .eq 7, 3) := by decide +kernel
theorem dX12_atom_38 : decode cX12_atom 38 = .ok (.iconst 2, 1) := by decide +kernel
theorem dX12_atom_39 : decode cX12_atom 39 = .ok (.goto 61, 3) := by decide +kernel
theorem dX12_atom_42 : decode cX12_atom 42 = .ok (.aload_n 0, 1) := by decide +kernel
theorem dX12_atom_43 : decode cX12_atom 43 = .ok (.ldc2_w 203, 3) := by decide +kernel
theorem dX12_atom_46 : decode cX12_atom 46 = .ok (.invokevirtual 283, 3) := by decide +kernel
theorem dX12_atom_49 : decode cX12_atom 49 = .ok (.ifCond .eq 7, 3) := by decide +kernel
theorem dX12_atom_52 : decode cX12_atom 52 = .ok (.iconst 3, 1) := by decide +kernel
theorem dX12_atom_53 : decode cX12_atom 53 = .ok (.goto 47, 3) := by decide +kernel
theorem dX12_atom_56 : decode cX12_atom 56 = .ok (.aload_n 0, 1) := by decide +kernel
theorem dX12_atom_57 : decode cX12_atom 57 = .ok (.ldc2_w 205, 3) := by decide +kernel
theorem dX12_atom_60 : decode cX12_atom 60 = .ok (.invokevirtual 283, 3) := by decide +kernel
theorem dX12_atom_63 : decode cX12_atom 63 = .ok (.ifCond .eq 7, 3) := by decide +kernel
theorem dX12_atom_66 : decode cX12_atom 66 = .ok (.iconst 4, 1) := by decide +kernel
theorem dX12_atom_67 : decode cX12_atom 67 = .ok (.goto 33, 3) := by decide +kernel
theorem dX12_atom_70 : decode cX12_atom 70 = .ok (.aload_n 0, 1) := by decide +kernel
theorem dX12_atom_71 : decode cX12_atom 71 = .ok (.ldc2_w 207, 3) := by decide +kernel
theorem dX12_atom_74 : decode cX12_atom 74 = .ok (.invokevirtual 283, 3) := by decide +kernel
theorem dX12_atom_77 : decode cX12_atom 77 = .ok (.ifCond .eq 7, 3) := by decide +kernel
theorem dX12_atom_80 : decode cX12_atom 80 = .ok (.iconst 5, 1) := by decide +kernel
theorem dX12_atom_81 : decode cX12_atom 81 = .ok (.goto 19, 3) := by decide +kernel
theorem dX12_atom_84 : decode cX12_atom 84 = .ok (.aload_n 0, 1) := by decide +kernel
theorem dX12_atom_85 : decode cX12_atom 85 = .ok (.ldc2_w 209, 3) := by decide +kernel
theorem dX12_atom_88 : decode cX12_atom 88 = .ok (.invokevirtual 283, 3) := by decide +kernel
theorem dX12_atom_91 : decode cX12_atom 91 = .ok (.ifCond .eq 8, 3) := by decide +kernel
theorem dX12_atom_94 : decode cX12_atom 94 = .ok (.bipush 6, 2) := by decide +kernel
theorem dX12_atom_96 : decode cX12_atom 96 = .ok (.goto 4, 3) := by decide +kernel
theorem dX12_atom_99 : decode cX12_atom 99 = .ok (.iconst (-1), 1) := by decide +kernel
theorem dX12_atom_100 : decode cX12_atom 100 = .ok (.ireturn, 1) := by decide +kernel
theorem dX12_one_0 : decode cX12_one 0 = .ok (.aload_n 0, 1) := by decide +kernel
theorem dX12_one_1 : decode cX12_one 1 = .ok (.ldc2_w 195, 3) := by decide +kernel
theorem dX12_one_4 : decode cX12_one 4 = .ok (.invokevirtual 283, 3) := by decide +kernel
theorem dX12_one_7 : decode cX12_one 7 = .ok (.istore_n 1, 1) := by decide +kernel
theorem dX12_one_8 : decode cX12_one 8 = .ok (.aload_n 0, 1) := by decide +kernel
theorem dX12_one_9 : decode cX12_one 9 = .ok (.invokevirtual 375, 3) := by decide +kernel
theorem dX12_one_12 : decode cX12_one 12 = .ok (.istore_n 2, 1) := by decide +kernel
theorem dX12_one_13 : decode cX12_one 13 = .ok (.iload_n 1, 1) := by decide +kernel
theorem dX12_one_14 : decode cX12_one 14 = .ok (.ifCond .ne 22, 3) := by decide +kernel
theorem dX12_one_17 : decode cX12_one 17 = .ok (.iload_n 2, 1) := by decide +kernel
theorem dX12_one_18 : decode cX12_one 18 = .ok (.ifCond .ge 18, 3) := by decide +kernel
theorem dX12_one_21 : decode cX12_one 21 = .ok (.aload_n 0, 1) := by decide +kernel
theorem dX12_one_22 : decode cX12_one 22 = .ok (.bipush 40, 2) := by decide +kernel
theorem dX12_one_24 : decode cX12_one 24 = .ok (.invokevirtual 253, 3) := by decide +kernel
theorem dX12_one_27 : decode cX12_one 27 = .ok (.ifCond .ne 9, 3) := by decide +kernel
theorem dX12_one_30 : decode cX12_one 30 = .ok (.aload_n 0, 1) := by decide +kernel
theorem dX12_one_31 : decode cX12_one 31 = .ok (.iconst 1, 1) := by decide +kernel
theorem dX12_one_32 : decode cX12_one 32 = .ok (.invokevirtual 256, 3) := by decide +kernel
theorem dX12_one_35 : decode cX12_one 35 = .ok (.ireturn, 1) := by decide +kernel
theorem dX12_one_36 : decode cX12_one 36 = .ok (.aload_n 0, 1) := by decide +kernel
theorem dX12_one_37 : decode cX12_one 37 = .ok (.getfield 378, 3) := by decide +kernel
theorem dX12_one_40 : decode cX12_one 40 = .ok (.bipush 20, 2) := by decide +kernel
theorem dX12_one_42 : decode cX12_one 42 = .ok (.if_icmp .eq 12, 3) := by decide +kernel
theorem dX12_one_45 : decode cX12_one 45 = .ok (.aload_n 0, 1) := by decide +kernel
theorem dX12_one_46 : decode cX12_one 46 = .ok (.invokevirtual 381, 3) := by decide +kernel
theorem dX12_one_49 : decode cX12_one 49 = .ok (.bipush 8, 2) := by decide +kernel
theorem dX12_one_51 : decode cX12_one 51 = .ok (.if_icmp .ne 9, 3) := by decide +kernel
theorem dX12_one_54 : decode cX12_one 54 = .ok (.aload_n 0, 1) := by decide +kernel
theorem dX12_one_55 : decode cX12_one 55 = .ok (.iconst 4, 1) := by decide +kernel
theorem dX12_one_56 : decode cX12_one 56 = .ok (.invokevirtual 256, 3) := by decide +kernel
theorem dX12_one_59 : decode cX12_one 59 = .ok (.ireturn, 1) := by decide +kernel
theorem dX12_one_60 : decode cX12_one 60 = .ok (.aload_n 0, 1) := by decide +kernel
theorem dX12_one_61 : decode cX12_one 61 = .ok (.dup, 1) := by decide +kernel
theorem dX12_one_62 : decode cX12_one 62 = .ok (.getfield 378, 3) := by decide +kernel
theorem dX12_one_65 : decode cX12_one 65 = .ok (.iconst 1, 1) := by decide +kernel
theorem dX12_one_66 : decode cX12_one 66 = .ok (.iadd, 1) := by decide +kernel
theorem dX12_one_67 : decode cX12_one 67 = .ok (.putfield 378, 3) := by decide +kernel
theorem dX12_one_70 : decode cX12_one 70 = .ok (.aload_n 0, 1) := by decide +kernel
theorem dX12_one_71 : decode cX12_one 71 = .ok (.invokevirtual 259, 3) := by decide +kernel
theorem dX12_one_74 : decode cX12_one 74 = .ok (.iload_n 2, 1) := by decide +kernel
theorem dX12_one_75 : decode cX12_one 75 = .ok (.ifCond .ge 36, 3) := by decide +kernel
theorem dX12_one_78 : decode cX12_one 78 = .ok (.aload_n 0, 1) := by decide +kernel
theorem dX12_one_79 : decode cX12_one 79 = .ok (.getfield 75, 3) := by decide +kernel
theorem dX12_one_82 : decode cX12_one 82 = .ok (.aload_n 0, 1) := by decide +kernel
theorem dX12_one_83 : decode cX12_one 83 = .ok (.getfield 356, 3) := by decide +kernel
theorem dX12_one_86 : decode cX12_one 86 = .ok (.iload_n 1, 1) := by decide +kernel
theorem dX12_one_87 : decode cX12_one 87 = .ok (.ifCond .eq 8, 3) := by decide +kernel
theorem dX12_one_90 : decode cX12_one 90 = .ok (.bipush 7, 2) := by decide +kernel
theorem dX12_one_92 : decode cX12_one 92 = .ok (.goto 5, 3) := by decide +kernel
theorem dX12_one_95 : decode cX12_one 95 = .ok (.bipush 10, 2) := by decide +kernel
theorem dX12_one_97 : decode cX12_one 97 = .ok (.iastore, 1) := by decide +kernel
theorem dX12_one_98 : decode cX12_one 98 = .ok (.aload_n 0, 1) := by decide +kernel
theorem dX12_one_99 : decode cX12_one 99 = .ok (.dup, 1) := by decide +kernel
theorem dX12_one_100 : decode cX12_one 100 = .ok (.getfield 356, 3) := by decide +kernel
theorem dX12_one_103 : decode cX12_one 103 = .ok (.iconst 1, 1) := by decide +kernel
theorem dX12_one_104 : decode cX12_one 104 = .ok (.iadd, 1) := by decide +kernel
theorem dX12_one_105 : decode cX12_one 105 = .ok (.putfield 356, 3) := by decide +kernel
theorem dX12_one_108 : decode cX12_one 108 = .ok (.goto (-108), 3) := by decide +kernel
theorem dX12_one_111 : decode cX12_one 111 = .ok (.aload_n 0, 1) := by decide +kernel
theorem dX12_one_112 : decode cX12_one 112 = .ok (.iload_n 2, 1) := by decide +kernel
theorem dX12_one_113 : decode cX12_one 113 = .ok (.invokevirtual 384, 3) := by decide +kernel
theorem dX12_one_116 : decode cX12_one 116 = .ok (.ireturn, 1) := by decide +kernel
theorem dX12_asks_0 : decode cX12_asks 0 = .ok (.iconst 0, 1) := by decide +kernel
theorem dX12_asks_1 : decode cX12_asks 1 = .ok (.istore_n 2, 1) := by decide +kernel
theorem dX12_asks_2 : decode cX12_asks 2 = .ok (.iconst 0, 1) := by decide +kernel
theorem dX12_asks_3 : decode cX12_asks 3 = .ok (.istore_n 3, 1) := by decide +kernel
theorem dX12_asks_4 : decode cX12_asks 4 = .ok (.iload_n 1, 1) := by decide +kernel
theorem dX12_asks_5 : decode cX12_asks 5 = .ok (.iconst 2, 1) := by decide +kernel
theorem dX12_asks_6 : decode cX12_asks 6 = .ok (.if_icmp .ne 80, 3) := by decide +kernel
theorem dX12_asks_9 : decode cX12_asks 9 = .ok (.aload_n 0, 1) := by decide +kernel
theorem dX12_asks_10 : decode cX12_asks 10 = .ok (.invokevirtual 269, 3) := by decide +kernel
theorem dX12_asks_13 : decode cX12_asks 13 = .ok (.ifCond .ne 9, 3) := by decide +kernel
theorem dX12_asks_16 : decode cX12_asks 16 = .ok (.aload_n 0, 1) := by decide +kernel
theorem dX12_asks_17 : decode cX12_asks 17 = .ok (.iconst 1, 1) := by decide +kernel
theorem dX12_asks_18 : decode cX12_asks 18 = .ok (.invokevirtual 256, 3) := by decide +kernel
theorem dX12_asks_21 : decode cX12_asks 21 = .ok (.ireturn, 1) := by decide +kernel
theorem dX12_asks_22 : decode cX12_asks 22 = .ok (.iconst (-1), 1) := by decide +kernel
theorem dX12_asks_23 : decode cX12_asks 23 = .ok (.istore_n 2, 1) := by decide +kernel
theorem dX12_asks_24 : decode cX12_asks 24 = .ok (.iconst 0, 1) := by decide +kernel
theorem dX12_asks_25 : decode cX12_asks 25 = .ok (.istore 4, 2) := by decide +kernel
theorem dX12_asks_27 : decode cX12_asks 27 = .ok (.iload 4, 2) := by decide +kernel
theorem dX12_asks_29 : decode cX12_asks 29 = .ok (.aload_n 0, 1) := by decide +kernel
theorem dX12_asks_30 : decode cX12_asks 30 = .ok (.getfield 33, 3) := by decide +kernel
theorem dX12_asks_33 : decode cX12_asks 33 = .ok (.iconst 1, 1) := by decide +kernel
theorem dX12_asks_34 : decode cX12_asks 34 = .ok (.iaload, 1) := by decide +kernel
theorem dX12_asks_35 : decode cX12_asks 35 = .ok (.if_icmp .ge 34, 3) := by decide +kernel
theorem dX12_asks_38 : decode cX12_asks 38 = .ok (.aload_n 0, 1) := by decide +kernel
theorem dX12_asks_39 : decode cX12_asks 39 = .ok (.getfield 40, 3) := by decide +kernel
theorem dX12_asks_42 : decode cX12_asks 42 = .ok (.bipush 6, 2) := by decide +kernel
theorem dX12_asks_44 : decode cX12_asks 44 = .ok (.iload 4, 2) := by decide +kernel
theorem dX12_asks_46 : decode cX12_asks 46 = .ok (.iadd, 1) := by decide +kernel
theorem dX12_asks_47 : decode cX12_asks 47 = .ok (.laload, 1) := by decide +kernel
theorem dX12_asks_48 : decode cX12_asks 48 = .ok (.aload_n 0, 1) := by decide +kernel
theorem dX12_asks_49 : decode cX12_asks 49 = .ok (.getfield 243, 3) := by decide +kernel
theorem dX12_asks_52 : decode cX12_asks 52 = .ok (.lcmp, 1) := by decide +kernel
theorem dX12_asks_53 : decode cX12_asks 53 = .ok (.ifCond .ne 8, 3) := by decide +kernel
theorem dX12_asks_56 : decode cX12_asks 56 = .ok (.iload 4, 2) := by decide +kernel
theorem dX12_asks_58 : decode cX12_asks 58 = .ok (.goto 4, 3) := by decide +kernel
theorem dX12_asks_61 : decode cX12_asks 61 = .ok (.iload_n 2, 1) := by decide +kernel
theorem dX12_asks_62 : decode cX12_asks 62 = .ok (.istore_n 2, 1) := by decide +kernel
theorem dX12_asks_63 : decode cX12_asks 63 = .ok (.iinc 4 1, 3) := by decide +kernel
theorem dX12_asks_66 : decode cX12_asks 66 = .ok (.goto (-39), 3) := by decide +kernel
theorem dX12_asks_69 : decode cX12_asks 69 = .ok (.iload_n 2, 1) := by decide +kernel
theorem dX12_asks_70 : decode cX12_asks 70 = .ok (.ifCond .ge 9, 3) := by decide +kernel
theorem dX12_asks_73 : decode cX12_asks 73 = .ok (.aload_n 0, 1) := by decide +kernel
theorem dX12_asks_74 : decode cX12_asks 74 = .ok (.iconst 3, 1) := by decide +kernel
theorem dX12_asks_75 : decode cX12_asks 75 = .ok (.invokevirtual 256, 3) := by decide +kernel
theorem dX12_asks_78 : decode cX12_asks 78 = .ok (.ireturn, 1) := by decide +kernel
theorem dX12_asks_79 : decode cX12_asks 79 = .ok (.aload_n 0, 1) := by decide +kernel
theorem dX12_asks_80 : decode cX12_asks 80 = .ok (.invokevirtual 259, 3) := by decide +kernel
theorem dX12_asks_83 : decode cX12_asks 83 = .ok (.goto 73, 3) := by decide +kernel
theorem dX12_asks_86 : decode cX12_asks 86 = .ok (.iload_n 1, 1) := by decide +kernel
theorem dX12_asks_87 : decode cX12_asks 87 = .ok (.iconst 2, 1) := by decide +kernel
theorem dX12_asks_88 : decode cX12_asks 88 = .ok (.if_icmp .le 68, 3) := by decide +kernel
theorem dX12_asks_91 : decode cX12_asks 91 = .ok (.aload_n 0, 1) := by decide +kernel
theorem dX12_asks_92 : decode cX12_asks 92 = .ok (.bipush 60, 2) := by decide +kernel
theorem dX12_asks_94 : decode cX12_asks 94 = .ok (.invokevirtual 253, 3) := by decide +kernel
theorem dX12_asks_97 : decode cX12_asks 97 = .ok (.ifCond .ne 27, 3) := by decide +kernel
theorem dX12_asks_100 : decode cX12_asks 100 = .ok (.aload_n 0, 1) := by decide +kernel
theorem dX12_asks_101 : decode cX12_asks 101 = .ok (.bipush 61, 2) := by decide +kernel
theorem dX12_asks_103 : decode cX12_asks 103 = .ok (.invokevirtual 253, 3) := by decide +kernel
theorem dX12_asks_106 : decode cX12_asks 106 = .ok (.ifCond .ne 18, 3) := by decide +kernel
theorem dX12_asks_109 : decode cX12_asks 109 = .ok (.aload_n 0, 1) := by decide +kernel
theorem dX12_asks_110 : decode cX12_asks 110 = .ok (.bipush 62, 2) := by decide +kernel
theorem dX12_asks_112 : decode cX12_asks 112 = .ok (.invokevirtual 253, 3) := by decide +kernel
theorem dX12_asks_115 : decode cX12_asks 115 = .ok (.ifCond .ne 9, 3) := by decide +kernel
theorem dX12_asks_118 : decode cX12_asks 118 = .ok (.aload_n 0, 1) := by decide +kernel
theorem dX12_asks_119 : decode cX12_asks 119 = .ok (.iconst 1, 1) := by decide +kernel
theorem dX12_asks_120 : decode cX12_asks 120 = .ok (.invokevirtual 256, 3) := by decide +kernel
theorem dX12_asks_123 : decode cX12_asks 123 = .ok (.ireturn, 1) := by decide +kernel
theorem dX12_asks_124 : decode cX12_asks 124 = .ok (.aload_n 0, 1) := by decide +kernel
theorem dX12_asks_125 : decode cX12_asks 125 = .ok (.getfield 240, 3) := by decide +kernel
theorem dX12_asks_128 : decode cX12_asks 128 = .ok (.istore_n 2, 1) := by decide +kernel
theorem dX12_asks_129 : decode cX12_asks 129 = .ok (.aload_n 0, 1) := by decide +kernel
theorem dX12_asks_130 : decode cX12_asks 130 = .ok (.invokevirtual 259, 3) := by decide +kernel
theorem dX12_asks_133 : decode cX12_asks 133 = .ok (.aload_n 0, 1) := by decide +kernel
theorem dX12_asks_134 : decode cX12_asks 134 = .ok (.getfield 230, 3) := by decide +kernel
theorem dX12_asks_137 : decode cX12_asks 137 = .ok (.iconst 2, 1) := by decide +kernel
theorem dX12_asks_138 : decode cX12_asks 138 = .ok (.if_icmp .eq 9, 3) := by decide +kernel
theorem dX12_asks_141 : decode cX12_asks 141 = .ok (.aload_n 0, 1) := by decide +kernel
theorem dX12_asks_142 : decode cX12_asks 142 = .ok (.iconst 1, 1) := by decide +kernel
theorem dX12_asks_143 : decode cX12_asks 143 = .ok (.invokevirtual 256, 3) := by decide +kernel
theorem dX12_asks_146 : decode cX12_asks 146 = .ok (.ireturn, 1) := by decide +kernel
theorem dX12_asks_147 : decode cX12_asks 147 = .ok (.aload_n 0, 1) := by decide +kernel
theorem dX12_asks_148 : decode cX12_asks 148 = .ok (.getfield 240, 3) := by decide +kernel
theorem dX12_asks_151 : decode cX12_asks 151 = .ok (.istore_n 3, 1) := by decide +kernel
theorem dX12_asks_152 : decode cX12_asks 152 = .ok (.aload_n 0, 1) := by decide +kernel
theorem dX12_asks_153 : decode cX12_asks 153 = .ok (.invokevirtual 259, 3) := by decide +kernel
theorem dX12_asks_156 : decode cX12_asks 156 = .ok (.aload_n 0, 1) := by decide +kernel
theorem dX12_asks_157 : decode cX12_asks 157 = .ok (.iload_n 1, 1) := by decide +kernel
theorem dX12_asks_158 : decode cX12_asks 158 = .ok (.iload_n 2, 1) := by decide +kernel
theorem dX12_asks_159 : decode cX12_asks 159 = .ok (.iload_n 3, 1) := by decide +kernel
theorem dX12_asks_160 : decode cX12_asks 160 = .ok (.invokevirtual 362, 3) := by decide +kernel
theorem dX12_asks_163 : decode cX12_asks 163 = .ok (.aload_n 0, 1) := by decide +kernel
theorem dX12_asks_164 : decode cX12_asks 164 = .ok (.iconst 3, 1) := by decide +kernel
theorem dX12_asks_165 : decode cX12_asks 165 = .ok (.invokevirtual 372, 3) := by decide +kernel
theorem dX12_asks_168 : decode cX12_asks 168 = .ok (.iconst 1, 1) := by decide +kernel
theorem dX12_asks_169 : decode cX12_asks 169 = .ok (.ireturn, 1) := by decide +kernel
theorem dX12_rule_0 : decode cX12_rule 0 = .ok (.aload_n 0, 1) := by decide +kernel
theorem dX12_rule_1 : decode cX12_rule 1 = .ok (.iconst 0, 1) := by decide +kernel
theorem dX12_rule_2 : decode cX12_rule 2 = .ok (.putfield 1, 3) := by decide +kernel
theorem dX12_rule_5 : decode cX12_rule 5 = .ok (.aload_n 0, 1) := by decide +kernel
theorem dX12_rule_6 : decode cX12_rule 6 = .ok (.sipush 200, 3) := by decide +kernel
theorem dX12_rule_9 : decode cX12_rule 9 = .ok (.invokevirtual 292, 3) := by decide +kernel
theorem dX12_rule_12 : decode cX12_rule 12 = .ok (.aload_n 0, 1) := by decide +kernel
theorem dX12_rule_13 : decode cX12_rule 13 = .ok (.iconst 0, 1) := by decide +kernel
theorem dX12_rule_14 : decode cX12_rule 14 = .ok (.putfield 247, 3) := by decide +kernel
theorem dX12_rule_17 : decode cX12_rule 17 = .ok (.aload_n 0, 1) := by decide +kernel
theorem dX12_rule_18 : decode cX12_rule 18 = .ok (.iconst 0, 1) := by decide +kernel
theorem dX12_rule_19 : decode cX12_rule 19 = .ok (.putfield 353, 3) := by decide +kernel
theorem dX12_rule_22 : decode cX12_rule 22 = .ok (.aload_n 0, 1) := by decide +kernel
theorem dX12_rule_23 : decode cX12_rule 23 = .ok (.iconst 0, 1) := by decide +kernel
theorem dX12_rule_24 : decode cX12_rule 24 = .ok (.putfield 356, 3) := by decide +kernel
theorem dX12_rule_27 : decode cX12_rule 27 = .ok (.aload_n 0, 1) := by decide +kernel
theorem dX12_rule_28 : decode cX12_rule 28 = .ok (.iconst 0, 1) := by decide +kernel
theorem dX12_rule_29 : decode cX12_rule 29 = .ok (.putfield 378, 3) := by decide +kernel
theorem dX12_rule_32 : decode cX12_rule 32 = .ok (.aload_n 0, 1) := by decide +kernel
theorem dX12_rule_33 : decode cX12_rule 33 = .ok (.invokevirtual 259, 3) := by decide +kernel
theorem dX12_rule_36 : decode cX12_rule 36 = .ok (.aload_n 0, 1) := by decide +kernel
theorem dX12_rule_37 : decode cX12_rule 37 = .ok (.invokevirtual 387, 3) := by decide +kernel
theorem dX12_rule_40 : decode cX12_rule 40 = .ok (.ifCond .ne 10, 3) := by decide +kernel
theorem dX12_rule_43 : decode cX12_rule 43 = .ok (.iconst (-1), 1) := by decide +kernel
theorem dX12_rule_44 : decode cX12_rule 44 = .ok (.aload_n 0, 1) := by decide +kernel
theorem dX12_rule_45 : decode cX12_rule 45 = .ok (.getfield 250, 3) := by decide +kernel
theorem dX12_rule_48 : decode cX12_rule 48 = .ok (.isub, 1) := by decide +kernel
theorem dX12_rule_49 : decode cX12_rule 49 = .ok (.ireturn, 1) := by decide +kernel
theorem dX12_rule_50 : decode cX12_rule 50 = .ok (.aload_n 0, 1) := by decide +kernel
theorem dX12_rule_51 : decode cX12_rule 51 = .ok (.getfield 33, 3) := by decide +kernel
theorem dX12_rule_54 : decode cX12_rule 54 = .ok (.bipush 16, 2) := by decide +kernel
theorem dX12_rule_56 : decode cX12_rule 56 = .ok (.aload_n 0, 1) := by decide +kernel
theorem dX12_rule_57 : decode cX12_rule 57 = .ok (.getfield 353, 3) := by decide +kernel
theorem dX12_rule_60 : decode cX12_rule 60 = .ok (.iastore, 1) := by decide +kernel
theorem dX12_rule_61 : decode cX12_rule 61 = .ok (.iconst 0, 1) := by decide +kernel
theorem dX12_rule_62 : decode cX12_rule 62 = .ok (.istore_n 1, 1) := by decide +kernel
theorem dX12_rule_63 : decode cX12_rule 63 = .ok (.iload_n 1, 1) := by decide +kernel
theorem dX12_rule_64 : decode cX12_rule 64 = .ok (.iconst 3, 1) := by decide +kernel
theorem dX12_rule_65 : decode cX12_rule 65 = .ok (.aload_n 0, 1) := by decide +kernel
theorem dX12_rule_66 : decode cX12_rule 66 = .ok (.getfield 353, 3) := by decide +kernel
theorem dX12_rule_69 : decode cX12_rule 69 = .ok (.imul, 1) := by decide +kernel
theorem dX12_rule_70 : decode cX12_rule 70 = .ok (.if_icmp .ge 25, 3) := by decide +kernel
theorem dX12_rule_73 : decode cX12_rule 73 = .ok (.aload_n 0, 1) := by decide +kernel
theorem dX12_rule_74 : decode cX12_rule 74 = .ok (.getfield 33, 3) := by decide +kernel
theorem dX12_rule_77 : decode cX12_rule 77 = .ok (.sipush 2627, 3) := by decide +kernel
theorem dX12_rule_80 : decode cX12_rule 80 = .ok (.iload_n 1, 1) := by decide +kernel
theorem dX12_rule_81 : decode cX12_rule 81 = .ok (.iadd, 1) := by decide +kernel
theorem dX12_rule_82 : decode cX12_rule 82 = .ok (.aload_n 0, 1) := by decide +kernel
theorem dX12_rule_83 : decode cX12_rule 83 = .ok (.getfield 72, 3) := by decide +kernel
theorem dX12_rule_86 : decode cX12_rule 86 = .ok (.iload_n 1, 1) := by decide +kernel
theorem dX12_rule_87 : decode cX12_rule 87 = .ok (.iaload, 1) := by decide +kernel
theorem dX12_rule_88 : decode cX12_rule 88 = .ok (.iastore, 1) := by decide +kernel
theorem dX12_rule_89 : decode cX12_rule 89 = .ok (.iinc 1 1, 3) := by decide +kernel
theorem dX12_rule_92 : decode cX12_rule 92 = .ok (.goto (-29), 3) := by decide +kernel
theorem dX12_rule_95 : decode cX12_rule 95 = .ok (.aload_n 0, 1) := by decide +kernel
theorem dX12_rule_96 : decode cX12_rule 96 = .ok (.getfield 378, 3) := by decide +kernel
theorem dX12_rule_99 : decode cX12_rule 99 = .ok (.ireturn, 1) := by decide +kernel
theorem dX12_meetsOne_0 : decode cX12_meetsOne 0 = .ok (.iconst 0, 1) := by decide +kernel
theorem dX12_meetsOne_1 : decode cX12_meetsOne 1 = .ok (.istore_n 2, 1) := by decide +kernel
theorem dX12_meetsOne_2 : decode cX12_meetsOne 2 = .ok (.iconst 0, 1) := by decide +kernel
theorem dX12_meetsOne_3 : decode cX12_meetsOne 3 = .ok (.istore_n 3, 1) := by decide +kernel
theorem dX12_meetsOne_4 : decode cX12_meetsOne 4 = .ok (.iload_n 3, 1) := by decide +kernel
theorem dX12_meetsOne_5 : decode cX12_meetsOne 5 = .ok (.aload_n 0, 1) := by decide +kernel
theorem dX12_meetsOne_6 : decode cX12_meetsOne 6 = .ok (.getfield 33, 3) := by decide +kernel
theorem dX12_meetsOne_9 : decode cX12_meetsOne 9 = .ok (.bipush 16, 2) := by decide +kernel
theorem dX12_meetsOne_11 : decode cX12_meetsOne 11 = .ok (.iaload, 1) := by decide +kernel
theorem dX12_meetsOne_12 : decode cX12_meetsOne 12 = .ok (.if_icmp .ge 189, 3) := by decide +kernel
theorem dX12_meetsOne_15 : decode cX12_meetsOne 15 = .ok (.aload_n 0, 1) := by decide +kernel
theorem dX12_meetsOne_16 : decode cX12_meetsOne 16 = .ok (.getfield 33, 3) := by decide +kernel
theorem dX12_meetsOne_19 : decode cX12_meetsOne 19 = .ok (.sipush 2627, 3) := by decide +kernel
theorem dX12_meetsOne_22 : decode cX12_meetsOne 22 = .ok (.iconst 3, 1) := by decide +kernel
theorem dX12_meetsOne_23 : decode cX12_meetsOne 23 = .ok (.iload_n 3, 1) := by decide +kernel
theorem dX12_meetsOne_24 : decode cX12_meetsOne 24 = .ok (.imul, 1) := by decide +kernel
theorem dX12_meetsOne_25 : decode cX12_meetsOne 25 = .ok (.iadd, 1) := by decide +kernel
theorem dX12_meetsOne_26 : decode cX12_meetsOne 26 = .ok (.iaload, 1) := by decide +kernel
theorem dX12_meetsOne_27 : decode cX12_meetsOne 27 = .ok (.istore 4, 2) := by decide +kernel
theorem dX12_meetsOne_29 : decode cX12_meetsOne 29 = .ok (.iload 4, 2) := by decide +kernel
theorem dX12_meetsOne_31 : decode cX12_meetsOne 31 = .ok (.bipush 7, 2) := by decide +kernel
theorem dX12_meetsOne_33 : decode cX12_meetsOne 33 = .ok (.if_icmp .ne 30, 3) := by decide +kernel
theorem dX12_meetsOne_36 : decode cX12_meetsOne 36 = .ok (.aload_n 0, 1) := by decide +kernel
theorem dX12_meetsOne_37 : decode cX12_meetsOne 37 = .ok (.getfield 78, 3) := by decide +kernel
theorem dX12_meetsOne_40 : decode cX12_meetsOne 40 = .ok (.iload_n 2, 1) := by decide +kernel
theorem dX12_meetsOne_41 : decode cX12_meetsOne 41 = .ok (.iconst 1, 1) := by decide +kernel
theorem dX12_meetsOne_42 : decode cX12_meetsOne 42 = .ok (.isub, 1) := by decide +kernel
theorem dX12_meetsOne_43 : decode cX12_meetsOne 43 = .ok (.aload_n 0, 1) := by decide +kernel
theorem dX12_meetsOne_44 : decode cX12_meetsOne 44 = .ok (.getfield 78, 3) := by decide +kernel
theorem dX12_meetsOne_47 : decode cX12_meetsOne 47 = .ok (.iload_n 2, 1) := by decide +kernel
theorem dX12_meetsOne_48 : decode cX12_meetsOne 48 = .ok (.iconst 1, 1) := by decide +kernel
theorem dX12_meetsOne_49 : decode cX12_meetsOne 49 = .ok (.isub, 1) := by decide +kernel
theorem dX12_meetsOne_50 : decode cX12_meetsOne 50 = .ok (.baload, 1) := by decide +kernel
theorem dX12_meetsOne_51 : decode cX12_meetsOne 51 = .ok (.ifCond .ne 7, 3) := by decide +kernel
theorem dX12_meetsOne_54 : decode cX12_meetsOne 54 = .ok (.iconst 1, 1) := by decide +kernel
theorem dX12_meetsOne_55 : decode cX12_meetsOne 55 = .ok (.goto 4, 3) := by decide +kernel
theorem dX12_meetsOne_58 : decode cX12_meetsOne 58 = .ok (.iconst 0, 1) := by decide +kernel
theorem dX12_meetsOne_59 : decode cX12_meetsOne 59 = .ok (.bastore, 1) := by decide +kernel
theorem dX12_meetsOne_60 : decode cX12_meetsOne 60 = .ok (.goto 135, 3) := by decide +kernel
theorem dX12_meetsOne_63 : decode cX12_meetsOne 63 = .ok (.iload 4, 2) := by decide +kernel
theorem dX12_meetsOne_65 : decode cX12_meetsOne 65 = .ok (.bipush 8, 2) := by decide +kernel
theorem dX12_meetsOne_67 : decode cX12_meetsOne 67 = .ok (.if_icmp .eq 10, 3) := by decide +kernel
theorem dX12_meetsOne_70 : decode cX12_meetsOne 70 = .ok (.iload 4, 2) := by decide +kernel
theorem dX12_meetsOne_72 : decode cX12_meetsOne 72 = .ok (.bipush 9, 2) := by decide +kernel
theorem dX12_meetsOne_74 : decode cX12_meetsOne 74 = .ok (.if_icmp .ne 77, 3) := by decide +kernel
theorem dX12_meetsOne_77 : decode cX12_meetsOne 77 = .ok (.iinc 2 (-1), 3) := by decide +kernel
theorem dX12_meetsOne_80 : decode cX12_meetsOne 80 = .ok (.aload_n 0, 1) := by decide +kernel
theorem dX12_meetsOne_81 : decode cX12_meetsOne 81 = .ok (.getfield 78, 3) := by decide +kernel
theorem dX12_meetsOne_84 : decode cX12_meetsOne 84 = .ok (.iload_n 2, 1) := by decide +kernel
theorem dX12_meetsOne_85 : decode cX12_meetsOne 85 = .ok (.iconst 1, 1) := by decide +kernel
theorem dX12_meetsOne_86 : decode cX12_meetsOne 86 = .ok (.isub, 1) := by decide +kernel
theorem dX12_meetsOne_87 : decode cX12_meetsOne 87 = .ok (.iload 4, 2) := by decide +kernel
theorem dX12_meetsOne_89 : decode cX12_meetsOne 89 = .ok (.bipush 8, 2) := by decide +kernel
theorem dX12_meetsOne_91 : decode cX12_meetsOne 91 = .ok (.if_icmp .ne 31, 3) := by decide +kernel
theorem dX12_meetsOne_94 : decode cX12_meetsOne 94 = .ok (.aload_n 0, 1) := by decide +kernel
theorem dX12_meetsOne_95 : decode cX12_meetsOne 95 = .ok (.getfield 78, 3) := by decide +kernel
theorem dX12_meetsOne_98 : decode cX12_meetsOne 98 = .ok (.iload_n 2, 1) := by decide +kernel
theorem dX12_meetsOne_99 : decode cX12_meetsOne 99 = .ok (.iconst 1, 1) := by decide +kernel
theorem dX12_meetsOne_100 : decode cX12_meetsOne 100 = .ok (.isub, 1) := by decide +kernel
theorem dX12_meetsOne_101 : decode cX12_meetsOne 101 = .ok (.baload, 1) := by decide +kernel
theorem dX12_meetsOne_102 : decode cX12_meetsOne 102 = .ok (.ifCond .eq 16, 3) := by decide +kernel
theorem dX12_meetsOne_105 : decode cX12_meetsOne 105 = .ok (.aload_n 0, 1) := by decide +kernel
theorem dX12_meetsOne_106 : decode cX12_meetsOne 106 = .ok (.getfield 78, 3) := by decide +kernel
theorem dX12_meetsOne_109 : decode cX12_meetsOne 109 = .ok (.iload_n 2, 1) := by decide +kernel
theorem dX12_meetsOne_110 : decode cX12_meetsOne 110 = .ok (.baload, 1) := by decide +kernel
theorem dX12_meetsOne_111 : decode cX12_meetsOne 111 = .ok (.ifCond .eq 7, 3) := by decide +kernel
theorem dX12_meetsOne_114 : decode cX12_meetsOne 114 = .ok (.iconst 1, 1) := by decide +kernel
theorem dX12_meetsOne_115 : decode cX12_meetsOne 115 = .ok (.goto 32, 3) := by decide +kernel
theorem dX12_meetsOne_118 : decode cX12_meetsOne 118 = .ok (.iconst 0, 1) := by decide +kernel
theorem dX12_meetsOne_119 : decode cX12_meetsOne 119 = .ok (.goto 28, 3) := by decide +kernel
theorem dX12_meetsOne_122 : decode cX12_meetsOne 122 = .ok (.aload_n 0, 1) := by decide +kernel
theorem dX12_meetsOne_123 : decode cX12_meetsOne 123 = .ok (.getfield 78, 3) := by decide +kernel
theorem dX12_meetsOne_126 : decode cX12_meetsOne 126 = .ok (.iload_n 2, 1) := by decide +kernel
theorem dX12_meetsOne_127 : decode cX12_meetsOne 127 = .ok (.iconst 1, 1) := by decide +kernel
theorem dX12_meetsOne_128 : decode cX12_meetsOne 128 = .ok (.isub, 1) := by decide +kernel
theorem dX12_meetsOne_129 : decode cX12_meetsOne 129 = .ok (.baload, 1) := by decide +kernel
theorem dX12_meetsOne_130 : decode cX12_meetsOne 130 = .ok (.ifCond .ne 12, 3) := by decide +kernel
theorem dX12_meetsOne_133 : decode cX12_meetsOne 133 = .ok (.aload_n 0, 1) := by decide +kernel
theorem dX12_meetsOne_134 : decode cX12_meetsOne 134 = .ok (.getfield 78, 3) := by decide +kernel
theorem dX12_meetsOne_137 : decode cX12_meetsOne 137 = .ok (.iload_n 2, 1) := by decide +kernel
theorem dX12_meetsOne_138 : decode cX12_meetsOne 138 = .ok (.baload, 1) := by decide +kernel
theorem dX12_meetsOne_139 : decode cX12_meetsOne 139 = .ok (.ifCond .eq 7, 3) := by decide +kernel
theorem dX12_meetsOne_142 : decode cX12_meetsOne 142 = .ok (.iconst 1, 1) := by decide +kernel
theorem dX12_meetsOne_143 : decode cX12_meetsOne 143 = .ok (.goto 4, 3) := by decide +kernel
theorem dX12_meetsOne_146 : decode cX12_meetsOne 146 = .ok (.iconst 0, 1) := by decide +kernel
theorem dX12_meetsOne_147 : decode cX12_meetsOne 147 = .ok (.bastore, 1) := by decide +kernel
theorem dX12_meetsOne_148 : decode cX12_meetsOne 148 = .ok (.goto 47, 3) := by decide +kernel
theorem dX12_meetsOne_151 : decode cX12_meetsOne 151 = .ok (.aload_n 0, 1) := by decide +kernel
theorem dX12_meetsOne_152 : decode cX12_meetsOne 152 = .ok (.getfield 78, 3) := by decide +kernel
theorem dX12_meetsOne_155 : decode cX12_meetsOne 155 = .ok (.iload_n 2, 1) := by decide +kernel
theorem dX12_meetsOne_156 : decode cX12_meetsOne 156 = .ok (.aload_n 0, 1) := by decide +kernel
theorem dX12_meetsOne_157 : decode cX12_meetsOne 157 = .ok (.iload_n 1, 1) := by decide +kernel
theorem dX12_meetsOne_158 : decode cX12_meetsOne 158 = .ok (.iload 4, 2) := by decide +kernel
theorem dX12_meetsOne_160 : decode cX12_meetsOne 160 = .ok (.aload_n 0, 1) := by decide +kernel
theorem dX12_meetsOne_161 : decode cX12_meetsOne 161 = .ok (.getfield 33, 3) := by decide +kernel
theorem dX12_meetsOne_164 : decode cX12_meetsOne 164 = .ok (.sipush 2627, 3) := by decide +kernel
theorem dX12_meetsOne_167 : decode cX12_meetsOne 167 = .ok (.iconst 3, 1) := by decide +kernel
theorem dX12_meetsOne_168 : decode cX12_meetsOne 168 = .ok (.iload_n 3, 1) := by decide +kernel
theorem dX12_meetsOne_169 : decode cX12_meetsOne 169 = .ok (.imul, 1) := by decide +kernel
theorem dX12_meetsOne_170 : decode cX12_meetsOne 170 = .ok (.iadd, 1) := by decide +kernel
theorem dX12_meetsOne_171 : decode cX12_meetsOne 171 = .ok (.iconst 1, 1) := by decide +kernel
theorem dX12_meetsOne_172 : decode cX12_meetsOne 172 = .ok (.iadd, 1) := by decide +kernel
theorem dX12_meetsOne_173 : decode cX12_meetsOne 173 = .ok (.iaload, 1) := by decide +kernel
theorem dX12_meetsOne_174 : decode cX12_meetsOne 174 = .ok (.aload_n 0, 1) := by decide +kernel
theorem dX12_meetsOne_175 : decode cX12_meetsOne 175 = .ok (.getfield 33, 3) := by decide +kernel
theorem dX12_meetsOne_178 : decode cX12_meetsOne 178 = .ok (.sipush 2627, 3) := by decide +kernel
theorem dX12_meetsOne_181 : decode cX12_meetsOne 181 = .ok (.iconst 3, 1) := by decide +kernel
theorem dX12_meetsOne_182 : decode cX12_meetsOne 182 = .ok (.iload_n 3, 1) := by decide +kernel
theorem dX12_meetsOne_183 : decode cX12_meetsOne 183 = .ok (.imul, 1) := by decide +kernel
theorem dX12_meetsOne_184 : decode cX12_meetsOne 184 = .ok (.iadd, 1) := by decide +kernel
theorem dX12_meetsOne_185 : decode cX12_meetsOne 185 = .ok (.iconst 2, 1) := by decide +kernel
theorem dX12_meetsOne_186 : decode cX12_meetsOne 186 = .ok (.iadd, 1) := by decide +kernel
theorem dX12_meetsOne_187 : decode cX12_meetsOne 187 = .ok (.iaload, 1) := by decide +kernel
theorem dX12_meetsOne_188 : decode cX12_meetsOne 188 = .ok (.invokevirtual 390, 3) := by decide +kernel
theorem dX12_meetsOne_191 : decode cX12_meetsOne 191 = .ok (.bastore, 1) := by decide +kernel
theorem dX12_meetsOne_192 : decode cX12_meetsOne 192 = .ok (.iinc 2 1, 3) := by decide +kernel
theorem dX12_meetsOne_195 : decode cX12_meetsOne 195 = .ok (.iinc 3 1, 3) := by decide +kernel
theorem dX12_meetsOne_198 : decode cX12_meetsOne 198 = .ok (.goto (-194), 3) := by decide +kernel
theorem dX12_meetsOne_201 : decode cX12_meetsOne 201 = .ok (.aload_n 0, 1) := by decide +kernel
theorem dX12_meetsOne_202 : decode cX12_meetsOne 202 = .ok (.getfield 78, 3) := by decide +kernel
theorem dX12_meetsOne_205 : decode cX12_meetsOne 205 = .ok (.iconst 0, 1) := by decide +kernel
theorem dX12_meetsOne_206 : decode cX12_meetsOne 206 = .ok (.baload, 1) := by decide +kernel
theorem dX12_meetsOne_207 : decode cX12_meetsOne 207 = .ok (.ireturn, 1) := by decide +kernel
theorem dX12_so_0 : decode cX12_so 0 = .ok (.iload_n 2, 1) := by decide +kernel
theorem dX12_so_1 : decode cX12_so 1 = .ok (.ifCond .ne 17, 3) := by decide +kernel
theorem dX12_so_4 : decode cX12_so 4 = .ok (.aload_n 0, 1) := by decide +kernel
theorem dX12_so_5 : decode cX12_so 5 = .ok (.iload_n 1, 1) := by decide +kernel
theorem dX12_so_6 : decode cX12_so 6 = .ok (.invokevirtual 350, 3) := by decide +kernel
theorem dX12_so_9 : decode cX12_so 9 = .ok (.ifCond .eq 7, 3) := by decide +kernel
theorem dX12_so_12 : decode cX12_so 12 = .ok (.iconst 1, 1) := by decide +kernel
theorem dX12_so_13 : decode cX12_so 13 = .ok (.goto 4, 3) := by decide +kernel
theorem dX12_so_16 : decode cX12_so 16 = .ok (.iconst 0, 1) := by decide +kernel
theorem dX12_so_17 : decode cX12_so 17 = .ok (.ireturn, 1) := by decide +kernel
theorem dX12_so_18 : decode cX12_so 18 = .ok (.iload_n 2, 1) := by decide +kernel
theorem dX12_so_19 : decode cX12_so 19 = .ok (.iconst 1, 1) := by decide +kernel
theorem dX12_so_20 : decode cX12_so 20 = .ok (.if_icmp .ne 17, 3) := by decide +kernel
theorem dX12_so_23 : decode cX12_so 23 = .ok (.aload_n 0, 1) := by decide +kernel
theorem dX12_so_24 : decode cX12_so 24 = .ok (.iload_n 1, 1) := by decide +kernel
theorem dX12_so_25 : decode cX12_so 25 = .ok (.invokevirtual 332, 3) := by decide +kernel
theorem dX12_so_28 : decode cX12_so 28 = .ok (.ifCond .lt 7, 3) := by decide +kernel
theorem dX12_so_31 : decode cX12_so 31 = .ok (.iconst 1, 1) := by decide +kernel
theorem dX12_so_32 : decode cX12_so 32 = .ok (.goto 4, 3) := by decide +kernel
theorem dX12_so_35 : decode cX12_so 35 = .ok (.iconst 0, 1) := by decide +kernel
theorem dX12_so_36 : decode cX12_so 36 = .ok (.ireturn, 1) := by decide +kernel
theorem dX12_so_37 : decode cX12_so 37 = .ok (.iload_n 2, 1) := by decide +kernel
theorem dX12_so_38 : decode cX12_so 38 = .ok (.iconst 2, 1) := by decide +kernel
theorem dX12_so_39 : decode cX12_so 39 = .ok (.if_icmp .ne 22, 3) := by decide +kernel
theorem dX12_so_42 : decode cX12_so 42 = .ok (.aload_n 0, 1) := by decide +kernel
theorem dX12_so_43 : decode cX12_so 43 = .ok (.getfield 33, 3) := by decide +kernel
theorem dX12_so_46 : decode cX12_so 46 = .ok (.bipush 17, 2) := by decide +kernel
theorem dX12_so_48 : decode cX12_so 48 = .ok (.iload_n 1, 1) := by decide +kernel
theorem dX12_so_49 : decode cX12_so 49 = .ok (.iadd, 1) := by decide +kernel
theorem dX12_so_50 : decode cX12_so 50 = .ok (.iaload, 1) := by decide +kernel
theorem dX12_so_51 : decode cX12_so 51 = .ok (.iload_n 3, 1) := by decide +kernel
theorem dX12_so_52 : decode cX12_so 52 = .ok (.if_icmp .ne 7, 3) := by decide +kernel
theorem dX12_so_55 : decode cX12_so 55 = .ok (.iconst 1, 1) := by decide +kernel
theorem dX12_so_56 : decode cX12_so 56 = .ok (.goto 4, 3) := by decide +kernel
theorem dX12_so_59 : decode cX12_so 59 = .ok (.iconst 0, 1) := by decide +kernel
theorem dX12_so_60 : decode cX12_so 60 = .ok (.ireturn, 1) := by decide +kernel
theorem dX12_so_61 : decode cX12_so 61 = .ok (.iload_n 2, 1) := by decide +kernel
theorem dX12_so_62 : decode cX12_so 62 = .ok (.bipush 6, 2) := by decide +kernel
theorem dX12_so_64 : decode cX12_so 64 = .ok (.if_icmp .eq 14, 3) := by decide +kernel
theorem dX12_so_67 : decode cX12_so 67 = .ok (.aload_n 0, 1) := by decide +kernel
theorem dX12_so_68 : decode cX12_so 68 = .ok (.getfield 66, 3) := by decide +kernel
theorem dX12_so_71 : decode cX12_so 71 = .ok (.iload_n 1, 1) := by decide +kernel
theorem dX12_so_72 : decode cX12_so 72 = .ok (.iaload, 1) := by decide +kernel
theorem dX12_so_73 : decode cX12_so 73 = .ok (.ifCond .ne 5, 3) := by decide +kernel
theorem dX12_so_76 : decode cX12_so 76 = .ok (.iconst 0, 1) := by decide +kernel
theorem dX12_so_77 : decode cX12_so 77 = .ok (.ireturn, 1) := by decide +kernel
theorem dX12_so_78 : decode cX12_so 78 = .ok (.iload_n 2, 1) := by decide +kernel
theorem dX12_so_79 : decode cX12_so 79 = .ok (.iconst 3, 1) := by decide +kernel
theorem dX12_so_80 : decode cX12_so 80 = .ok (.if_icmp .ne 12, 3) := by decide +kernel
theorem dX12_so_83 : decode cX12_so 83 = .ok (.aload_n 0, 1) := by decide +kernel
theorem dX12_so_84 : decode cX12_so 84 = .ok (.getfield 57, 3) := by decide +kernel
theorem dX12_so_87 : decode cX12_so 87 = .ok (.iload_n 1, 1) := by decide +kernel
theorem dX12_so_88 : decode cX12_so 88 = .ok (.iaload, 1) := by decide +kernel
theorem dX12_so_89 : decode cX12_so 89 = .ok (.goto 32, 3) := by decide +kernel
theorem dX12_so_92 : decode cX12_so 92 = .ok (.iload_n 2, 1) := by decide +kernel
theorem dX12_so_93 : decode cX12_so 93 = .ok (.iconst 4, 1) := by decide +kernel
theorem dX12_so_94 : decode cX12_so 94 = .ok (.if_icmp .ne 12, 3) := by decide +kernel
theorem dX12_so_97 : decode cX12_so 97 = .ok (.aload_n 0, 1) := by decide +kernel
theorem dX12_so_98 : decode cX12_so 98 = .ok (.getfield 60, 3) := by decide +kernel
theorem dX12_so_101 : decode cX12_so 101 = .ok (.iload_n 1, 1) := by decide +kernel
theorem dX12_so_102 : decode cX12_so 102 = .ok (.iaload, 1) := by decide +kernel
theorem dX12_so_103 : decode cX12_so 103 = .ok (.goto 18, 3) := by decide +kernel
theorem dX12_so_106 : decode cX12_so 106 = .ok (.iload_n 2, 1) := by decide +kernel
theorem dX12_so_107 : decode cX12_so 107 = .ok (.iconst 5, 1) := by decide +kernel
theorem dX12_so_108 : decode cX12_so 108 = .ok (.if_icmp .ne 12, 3) := by decide +kernel
theorem dX12_so_111 : decode cX12_so 111 = .ok (.aload_n 0, 1) := by decide +kernel
theorem dX12_so_112 : decode cX12_so 112 = .ok (.getfield 63, 3) := by decide +kernel
theorem dX12_so_115 : decode cX12_so 115 = .ok (.iload_n 1, 1) := by decide +kernel
theorem dX12_so_116 : decode cX12_so 116 = .ok (.iaload, 1) := by decide +kernel
theorem dX12_so_117 : decode cX12_so 117 = .ok (.goto 4, 3) := by decide +kernel
theorem dX12_so_120 : decode cX12_so 120 = .ok (.iload_n 1, 1) := by decide +kernel
theorem dX12_so_121 : decode cX12_so 121 = .ok (.istore 5, 2) := by decide +kernel
theorem dX12_so_123 : decode cX12_so 123 = .ok (.iload_n 3, 1) := by decide +kernel
theorem dX12_so_124 : decode cX12_so 124 = .ok (.bipush 60, 2) := by decide +kernel
theorem dX12_so_126 : decode cX12_so 126 = .ok (.if_icmp .ne 18, 3) := by decide +kernel
theorem dX12_so_129 : decode cX12_so 129 = .ok (.iload 5, 2) := by decide +kernel
theorem dX12_so_131 : decode cX12_so 131 = .ok (.iload 4, 2) := by decide +kernel
theorem dX12_so_133 : decode cX12_so 133 = .ok (.if_icmp .ge 7, 3) := by decide +kernel
theorem dX12_so_136 : decode cX12_so 136 = .ok (.iconst 1, 1) := by decide +kernel
theorem dX12_so_137 : decode cX12_so 137 = .ok (.goto 40, 3) := by decide +kernel
theorem dX12_so_140 : decode cX12_so 140 = .ok (.iconst 0, 1) := by decide +kernel
theorem dX12_so_141 : decode cX12_so 141 = .ok (.goto 36, 3) := by decide +kernel
theorem dX12_so_144 : decode cX12_so 144 = .ok (.iload_n 3, 1) := by decide +kernel
theorem dX12_so_145 : decode cX12_so 145 = .ok (.bipush 61, 2) := by decide +kernel
theorem dX12_so_147 : decode cX12_so 147 = .ok (.if_icmp .ne 18, 3) := by decide +kernel
theorem dX12_so_150 : decode cX12_so 150 = .ok (.iload 5, 2) := by decide +kernel
theorem dX12_so_152 : decode cX12_so 152 = .ok (.iload 4, 2) := by decide +kernel
theorem dX12_so_154 : decode cX12_so 154 = .ok (.if_icmp .ne 7, 3) := by decide +kernel
theorem dX12_so_157 : decode cX12_so 157 = .ok (.iconst 1, 1) := by decide +kernel
theorem dX12_so_158 : decode cX12_so 158 = .ok (.goto 19, 3) := by decide +kernel
theorem dX12_so_161 : decode cX12_so 161 = .ok (.iconst 0, 1) := by decide +kernel
theorem dX12_so_162 : decode cX12_so 162 = .ok (.goto 15, 3) := by decide +kernel
theorem dX12_so_165 : decode cX12_so 165 = .ok (.iload 5, 2) := by decide +kernel
theorem dX12_so_167 : decode cX12_so 167 = .ok (.iload 4, 2) := by decide +kernel
theorem dX12_so_169 : decode cX12_so 169 = .ok (.if_icmp .le 7, 3) := by decide +kernel
theorem dX12_so_172 : decode cX12_so 172 = .ok (.iconst 1, 1) := by decide +kernel
theorem dX12_so_173 : decode cX12_so 173 = .ok (.goto 4, 3) := by decide +kernel
theorem dX12_so_176 : decode cX12_so 176 = .ok (.iconst 0, 1) := by decide +kernel
theorem dX12_so_177 : decode cX12_so 177 = .ok (.ireturn, 1) := by decide +kernel
theorem dX12_meets_0 : decode cX12_meets 0 = .ok (.aload_n 0, 1) := by decide +kernel
theorem dX12_meets_1 : decode cX12_meets 1 = .ok (.iconst 0, 1) := by decide +kernel
theorem dX12_meets_2 : decode cX12_meets 2 = .ok (.putfield 1, 3) := by decide +kernel
theorem dX12_meets_5 : decode cX12_meets 5 = .ok (.aload_n 0, 1) := by decide +kernel
theorem dX12_meets_6 : decode cX12_meets 6 = .ok (.getfield 33, 3) := by decide +kernel
theorem dX12_meets_9 : decode cX12_meets 9 = .ok (.bipush 16, 2) := by decide +kernel
theorem dX12_meets_11 : decode cX12_meets 11 = .ok (.iaload, 1) := by decide +kernel
theorem dX12_meets_12 : decode cX12_meets 12 = .ok (.ifCond .eq 8, 3) := by decide +kernel
theorem dX12_meets_15 : decode cX12_meets 15 = .ok (.iload_n 1, 1) := by decide +kernel
theorem dX12_meets_16 : decode cX12_meets 16 = .ok (.iconst (-1), 1) := by decide +kernel
theorem dX12_meets_17 : decode cX12_meets 17 = .ok (.if_icmp .ge 5, 3) := by decide +kernel
theorem dX12_meets_20 : decode cX12_meets 20 = .ok (.iconst (-1), 1) := by decide +kernel
theorem dX12_meets_21 : decode cX12_meets 21 = .ok (.ireturn, 1) := by decide +kernel
theorem dX12_meets_22 : decode cX12_meets 22 = .ok (.aload_n 0, 1) := by decide +kernel
theorem dX12_meets_23 : decode cX12_meets 23 = .ok (.invokevirtual 324, 3) := by decide +kernel
theorem dX12_meets_26 : decode cX12_meets 26 = .ok (.iconst 0, 1) := by decide +kernel
theorem dX12_meets_27 : decode cX12_meets 27 = .ok (.istore_n 2, 1) := by decide +kernel
theorem dX12_meets_28 : decode cX12_meets 28 = .ok (.iconst 0, 1) := by decide +kernel
theorem dX12_meets_29 : decode cX12_meets 29 = .ok (.istore_n 3, 1) := by decide +kernel
theorem dX12_meets_30 : decode cX12_meets 30 = .ok (.iload_n 3, 1) := by decide +kernel
theorem dX12_meets_31 : decode cX12_meets 31 = .ok (.aload_n 0, 1) := by decide +kernel
theorem dX12_meets_32 : decode cX12_meets 32 = .ok (.getfield 33, 3) := by decide +kernel
theorem dX12_meets_35 : decode cX12_meets 35 = .ok (.bipush 11, 2) := by decide +kernel
theorem dX12_meets_37 : decode cX12_meets 37 = .ok (.iaload, 1) := by decide +kernel
theorem dX12_meets_38 : decode cX12_meets 38 = .ok (.if_icmp .ge 30, 3) := by decide +kernel
theorem dX12_meets_41 : decode cX12_meets 41 = .ok (.aload_n 0, 1) := by decide +kernel
theorem dX12_meets_42 : decode cX12_meets 42 = .ok (.iload_n 3, 1) := by decide +kernel
theorem dX12_meets_43 : decode cX12_meets 43 = .ok (.invokevirtual 394, 3) := by decide +kernel
theorem dX12_meets_46 : decode cX12_meets 46 = .ok (.ifCond .ne 6, 3) := by decide +kernel
theorem dX12_meets_49 : decode cX12_meets 49 = .ok (.goto 13, 3) := by decide +kernel
theorem dX12_meets_52 : decode cX12_meets 52 = .ok (.iload_n 2, 1) := by decide +kernel
theorem dX12_meets_53 : decode cX12_meets 53 = .ok (.iload_n 1, 1) := by decide +kernel
theorem dX12_meets_54 : decode cX12_meets 54 = .ok (.if_icmp .ne 5, 3) := by decide +kernel
theorem dX12_meets_57 : decode cX12_meets 57 = .ok (.iload_n 3, 1) := by decide +kernel
theorem dX12_meets_58 : decode cX12_meets 58 = .ok (.ireturn, 1) := by decide +kernel
theorem dX12_meets_59 : decode cX12_meets 59 = .ok (.iinc 2 1, 3) := by decide +kernel
theorem dX12_meets_62 : decode cX12_meets 62 = .ok (.iinc 3 1, 3) := by decide +kernel
theorem dX12_meets_65 : decode cX12_meets 65 = .ok (.goto (-35), 3) := by decide +kernel
theorem dX12_meets_68 : decode cX12_meets 68 = .ok (.iload_n 1, 1) := by decide +kernel
theorem dX12_meets_69 : decode cX12_meets 69 = .ok (.iconst (-1), 1) := by decide +kernel
theorem dX12_meets_70 : decode cX12_meets 70 = .ok (.if_icmp .ne 7, 3) := by decide +kernel
theorem dX12_meets_73 : decode cX12_meets 73 = .ok (.iload_n 2, 1) := by decide +kernel
theorem dX12_meets_74 : decode cX12_meets 74 = .ok (.goto 4, 3) := by decide +kernel
theorem dX12_meets_77 : decode cX12_meets 77 = .ok (.iconst (-1), 1) := by decide +kernel
theorem dX12_meets_78 : decode cX12_meets 78 = .ok (.ireturn, 1) := by decide +kernel
theorem dX12_tells_0 : decode cX12_tells 0 = .ok (.aload_n 0, 1) := by decide +kernel
theorem dX12_tells_1 : decode cX12_tells 1 = .ok (.getfield 18, 3) := by decide +kernel
theorem dX12_tells_4 : decode cX12_tells 4 = .ok (.iload_n 1, 1) := by decide +kernel
theorem dX12_tells_5 : decode cX12_tells 5 = .ok (.iload_n 2, 1) := by decide +kernel
theorem dX12_tells_6 : decode cX12_tells 6 = .ok (.invokestatic 262, 3) := by decide +kernel
theorem dX12_tells_9 : decode cX12_tells 9 = .ok (.ifCond .ne 5, 3) := by decide +kernel
theorem dX12_tells_12 : decode cX12_tells 12 = .ok (.iconst 0, 1) := by decide +kernel
theorem dX12_tells_13 : decode cX12_tells 13 = .ok (.ireturn, 1) := by decide +kernel
theorem dX12_tells_14 : decode cX12_tells 14 = .ok (.aload_n 0, 1) := by decide +kernel
theorem dX12_tells_15 : decode cX12_tells 15 = .ok (.invokevirtual 324, 3) := by decide +kernel
theorem dX12_tells_18 : decode cX12_tells 18 = .ok (.aload_n 0, 1) := by decide +kernel
theorem dX12_tells_19 : decode cX12_tells 19 = .ok (.aload_n 0, 1) := by decide +kernel
theorem dX12_tells_20 : decode cX12_tells 20 = .ok (.getfield 18, 3) := by decide +kernel
theorem dX12_tells_23 : decode cX12_tells 23 = .ok (.putfield 397, 3) := by decide +kernel
theorem dX12_tells_26 : decode cX12_tells 26 = .ok (.iconst 0, 1) := by decide +kernel
theorem dX12_tells_27 : decode cX12_tells 27 = .ok (.istore_n 3, 1) := by decide +kernel
theorem dX12_tells_28 : decode cX12_tells 28 = .ok (.iload_n 3, 1) := by decide +kernel
theorem dX12_tells_29 : decode cX12_tells 29 = .ok (.aload_n 0, 1) := by decide +kernel
theorem dX12_tells_30 : decode cX12_tells 30 = .ok (.getfield 18, 3) := by decide +kernel
theorem dX12_tells_33 : decode cX12_tells 33 = .ok (.if_icmp .ge 82, 3) := by decide +kernel
theorem dX12_tells_36 : decode cX12_tells 36 = .ok (.aload_n 0, 1) := by decide +kernel
theorem dX12_tells_37 : decode cX12_tells 37 = .ok (.getfield 81, 3) := by decide +kernel
theorem dX12_tells_40 : decode cX12_tells 40 = .ok (.iload_n 3, 1) := by decide +kernel
theorem dX12_tells_41 : decode cX12_tells 41 = .ok (.aload_n 0, 1) := by decide +kernel
theorem dX12_tells_42 : decode cX12_tells 42 = .ok (.iload_n 3, 1) := by decide +kernel
theorem dX12_tells_43 : decode cX12_tells 43 = .ok (.invokevirtual 400, 3) := by decide +kernel
theorem dX12_tells_46 : decode cX12_tells 46 = .ok (.iastore, 1) := by decide +kernel
theorem dX12_tells_47 : decode cX12_tells 47 = .ok (.aload_n 0, 1) := by decide +kernel
theorem dX12_tells_48 : decode cX12_tells 48 = .ok (.aload_n 0, 1) := by decide +kernel
theorem dX12_tells_49 : decode cX12_tells 49 = .ok (.getfield 81, 3) := by decide +kernel
theorem dX12_tells_52 : decode cX12_tells 52 = .ok (.iload_n 3, 1) := by decide +kernel
theorem dX12_tells_53 : decode cX12_tells 53 = .ok (.iaload, 1) := by decide +kernel
theorem dX12_tells_54 : decode cX12_tells 54 = .ok (.invokevirtual 304, 3) := by decide +kernel
theorem dX12_tells_57 : decode cX12_tells 57 = .ok (.ifCond .eq 17, 3) := by decide +kernel
theorem dX12_tells_60 : decode cX12_tells 60 = .ok (.aload_n 0, 1) := by decide +kernel
theorem dX12_tells_61 : decode cX12_tells 61 = .ok (.getfield 66, 3) := by decide +kernel
theorem dX12_tells_64 : decode cX12_tells 64 = .ok (.aload_n 0, 1) := by decide +kernel
theorem dX12_tells_65 : decode cX12_tells 65 = .ok (.getfield 81, 3) := by decide +kernel
theorem dX12_tells_68 : decode cX12_tells 68 = .ok (.iload_n 3, 1) := by decide +kernel
theorem dX12_tells_69 : decode cX12_tells 69 = .ok (.iaload, 1) := by decide +kernel
theorem dX12_tells_70 : decode cX12_tells 70 = .ok (.iaload, 1) := by decide +kernel
theorem dX12_tells_71 : decode cX12_tells 71 = .ok (.ifCond .ne 5, 3) := by decide +kernel
theorem dX12_tells_74 : decode cX12_tells 74 = .ok (.iconst 0, 1) := by decide +kernel
theorem dX12_tells_75 : decode cX12_tells 75 = .ok (.ireturn, 1) := by decide +kernel
theorem dX12_tells_76 : decode cX12_tells 76 = .ok (.iconst 0, 1) := by decide +kernel
theorem dX12_tells_77 : decode cX12_tells 77 = .ok (.istore 4, 2) := by decide +kernel
theorem dX12_tells_79 : decode cX12_tells 79 = .ok (.iload 4, 2) := by decide +kernel
theorem dX12_tells_81 : decode cX12_tells 81 = .ok (.iload_n 3, 1) := by decide +kernel
theorem dX12_tells_82 : decode cX12_tells 82 = .ok (.if_icmp .ge 27, 3) := by decide +kernel
theorem dX12_tells_85 : decode cX12_tells 85 = .ok (.aload_n 0, 1) := by decide +kernel
theorem dX12_tells_86 : decode cX12_tells 86 = .ok (.getfield 81, 3) := by decide +kernel
theorem dX12_tells_89 : decode cX12_tells 89 = .ok (.iload 4, 2) := by decide +kernel
theorem dX12_tells_91 : decode cX12_tells 91 = .ok (.iaload, 1) := by decide +kernel
theorem dX12_tells_92 : decode cX12_tells 92 = .ok (.aload_n 0, 1) := by decide +kernel
theorem dX12_tells_93 : decode cX12_tells 93 = .ok (.getfield 81, 3) := by decide +kernel
theorem dX12_tells_96 : decode cX12_tells 96 = .ok (.iload_n 3, 1) := by decide +kernel
theorem dX12_tells_97 : decode cX12_tells 97 = .ok (.iaload, 1) := by decide +kernel
theorem dX12_tells_98 : decode cX12_tells 98 = .ok (.if_icmp .ne 5, 3) := by decide +kernel
theorem dX12_tells_101 : decode cX12_tells 101 = .ok (.iconst 0, 1) := by decide +kernel
theorem dX12_tells_102 : decode cX12_tells 102 = .ok (.ireturn, 1) := by decide +kernel
theorem dX12_tells_103 : decode cX12_tells 103 = .ok (.iinc 4 1, 3) := by decide +kernel
theorem dX12_tells_106 : decode cX12_tells 106 = .ok (.goto (-27), 3) := by decide +kernel
theorem dX12_tells_109 : decode cX12_tells 109 = .ok (.iinc 3 1, 3) := by decide +kernel
theorem dX12_tells_112 : decode cX12_tells 112 = .ok (.goto (-84), 3) := by decide +kernel
theorem dX12_tells_115 : decode cX12_tells 115 = .ok (.iconst 1, 1) := by decide +kernel
theorem dX12_tells_116 : decode cX12_tells 116 = .ok (.ireturn, 1) := by decide +kernel
theorem dX12_weigh_0 : decode cX12_weigh 0 = .ok (.aload_n 0, 1) := by decide +kernel
theorem dX12_weigh_1 : decode cX12_weigh 1 = .ok (.getfield 93, 3) := by decide +kernel
theorem dX12_weigh_4 : decode cX12_weigh 4 = .ok (.iconst 0, 1) := by decide +kernel
theorem dX12_weigh_5 : decode cX12_weigh 5 = .ok (.iaload, 1) := by decide +kernel
theorem dX12_weigh_6 : decode cX12_weigh 6 = .ok (.istore_n 2, 1) := by decide +kernel
theorem dX12_weigh_7 : decode cX12_weigh 7 = .ok (.aload_n 0, 1) := by decide +kernel
theorem dX12_weigh_8 : decode cX12_weigh 8 = .ok (.getfield 93, 3) := by decide +kernel
theorem dX12_weigh_11 : decode cX12_weigh 11 = .ok (.iconst 0, 1) := by decide +kernel
theorem dX12_weigh_12 : decode cX12_weigh 12 = .ok (.iaload, 1) := by decide +kernel
theorem dX12_weigh_13 : decode cX12_weigh 13 = .ok (.istore_n 3, 1) := by decide +kernel
theorem dX12_weigh_14 : decode cX12_weigh 14 = .ok (.aload_n 0, 1) := by decide +kernel
theorem dX12_weigh_15 : decode cX12_weigh 15 = .ok (.getfield 96, 3) := by decide +kernel
theorem dX12_weigh_18 : decode cX12_weigh 18 = .ok (.iconst 0, 1) := by decide +kernel
theorem dX12_weigh_19 : decode cX12_weigh 19 = .ok (.iaload, 1) := by decide +kernel
theorem dX12_weigh_20 : decode cX12_weigh 20 = .ok (.istore 4, 2) := by decide +kernel
theorem dX12_weigh_22 : decode cX12_weigh 22 = .ok (.aload_n 0, 1) := by decide +kernel
theorem dX12_weigh_23 : decode cX12_weigh 23 = .ok (.getfield 96, 3) := by decide +kernel
theorem dX12_weigh_26 : decode cX12_weigh 26 = .ok (.iconst 0, 1) := by decide +kernel
theorem dX12_weigh_27 : decode cX12_weigh 27 = .ok (.iaload, 1) := by decide +kernel
theorem dX12_weigh_28 : decode cX12_weigh 28 = .ok (.istore 5, 2) := by decide +kernel
theorem dX12_weigh_30 : decode cX12_weigh 30 = .ok (.iconst 1, 1) := by decide +kernel
theorem dX12_weigh_31 : decode cX12_weigh 31 = .ok (.istore 6, 2) := by decide +kernel
theorem dX12_weigh_33 : decode cX12_weigh 33 = .ok (.iload 6, 2) := by decide +kernel
theorem dX12_weigh_35 : decode cX12_weigh 35 = .ok (.iload_n 1, 1) := by decide +kernel
theorem dX12_weigh_36 : decode cX12_weigh 36 = .ok (.if_icmp .ge 107, 3) := by decide +kernel
theorem dX12_weigh_39 : decode cX12_weigh 39 = .ok (.aload_n 0, 1) := by decide +kernel
theorem dX12_weigh_40 : decode cX12_weigh 40 = .ok (.getfield 93, 3) := by decide +kernel
theorem dX12_weigh_43 : decode cX12_weigh 43 = .ok (.iload 6, 2) := by decide +kernel
theorem dX12_weigh_45 : decode cX12_weigh 45 = .ok (.iaload, 1) := by decide +kernel
theorem dX12_weigh_46 : decode cX12_weigh 46 = .ok (.iload_n 2, 1) := by decide +kernel
theorem dX12_weigh_47 : decode cX12_weigh 47 = .ok (.if_icmp .ge 13, 3) := by decide +kernel
theorem dX12_weigh_50 : decode cX12_weigh 50 = .ok (.aload_n 0, 1) := by decide +kernel
theorem dX12_weigh_51 : decode cX12_weigh 51 = .ok (.getfield 93, 3) := by decide +kernel
theorem dX12_weigh_54 : decode cX12_weigh 54 = .ok (.iload 6, 2) := by decide +kernel
theorem dX12_weigh_56 : decode cX12_weigh 56 = .ok (.iaload, 1) := by decide +kernel
theorem dX12_weigh_57 : decode cX12_weigh 57 = .ok (.goto 4, 3) := by decide +kernel
theorem dX12_weigh_60 : decode cX12_weigh 60 = .ok (.iload_n 2, 1) := by decide +kernel
theorem dX12_weigh_61 : decode cX12_weigh 61 = .ok (.istore_n 2, 1) := by decide +kernel
theorem dX12_weigh_62 : decode cX12_weigh 62 = .ok (.aload_n 0, 1) := by decide +kernel
theorem dX12_weigh_63 : decode cX12_weigh 63 = .ok (.getfield 93, 3) := by decide +kernel
theorem dX12_weigh_66 : decode cX12_weigh 66 = .ok (.iload 6, 2) := by decide +kernel
theorem dX12_weigh_68 : decode cX12_weigh 68 = .ok (.iaload, 1) := by decide +kernel
theorem dX12_weigh_69 : decode cX12_weigh 69 = .ok (.iload_n 3, 1) := by decide +kernel
theorem dX12_weigh_70 : decode cX12_weigh 70 = .ok (.if_icmp .le 13, 3) := by decide +kernel
theorem dX12_weigh_73 : decode cX12_weigh 73 = .ok (.aload_n 0, 1) := by decide +kernel
theorem dX12_weigh_74 : decode cX12_weigh 74 = .ok (.getfield 93, 3) := by decide +kernel
theorem dX12_weigh_77 : decode cX12_weigh 77 = .ok (.iload 6, 2) := by decide +kernel
theorem dX12_weigh_79 : decode cX12_weigh 79 = .ok (.iaload, 1) := by decide +kernel
theorem dX12_weigh_80 : decode cX12_weigh 80 = .ok (.goto 4, 3) := by decide +kernel
theorem dX12_weigh_83 : decode cX12_weigh 83 = .ok (.iload_n 3, 1) := by decide +kernel
theorem dX12_weigh_84 : decode cX12_weigh 84 = .ok (.istore_n 3, 1) := by decide +kernel
theorem dX12_weigh_85 : decode cX12_weigh 85 = .ok (.aload_n 0, 1) := by decide +kernel
theorem dX12_weigh_86 : decode cX12_weigh 86 = .ok (.getfield 96, 3) := by decide +kernel
theorem dX12_weigh_89 : decode cX12_weigh 89 = .ok (.iload 6, 2) := by decide +kernel
theorem dX12_weigh_91 : decode cX12_weigh 91 = .ok (.iaload, 1) := by decide +kernel
theorem dX12_weigh_92 : decode cX12_weigh 92 = .ok (.iload 4, 2) := by decide +kernel
theorem dX12_weigh_94 : decode cX12_weigh 94 = .ok (.if_icmp .ge 13, 3) := by decide +kernel
theorem dX12_weigh_97 : decode cX12_weigh 97 = .ok (.aload_n 0, 1) := by decide +kernel
theorem dX12_weigh_98 : decode cX12_weigh 98 = .ok (.getfield 96, 3) := by decide +kernel
theorem dX12_weigh_101 : decode cX12_weigh 101 = .ok (.iload 6, 2) := by decide +kernel
theorem dX12_weigh_103 : decode cX12_weigh 103 = .ok (.iaload, 1) := by decide +kernel
theorem dX12_weigh_104 : decode cX12_weigh 104 = .ok (.goto 5, 3) := by decide +kernel
theorem dX12_weigh_107 : decode cX12_weigh 107 = .ok (.iload 4, 2) := by decide +kernel
theorem dX12_weigh_109 : decode cX12_weigh 109 = .ok (.istore 4, 2) := by decide +kernel
theorem dX12_weigh_111 : decode cX12_weigh 111 = .ok (.aload_n 0, 1) := by decide +kernel
theorem dX12_weigh_112 : decode cX12_weigh 112 = .ok (.getfield 96, 3) := by decide +kernel
theorem dX12_weigh_115 : decode cX12_weigh 115 = .ok (.iload 6, 2) := by decide +kernel
theorem dX12_weigh_117 : decode cX12_weigh 117 = .ok (.iaload, 1) := by decide +kernel
theorem dX12_weigh_118 : decode cX12_weigh 118 = .ok (.iload 5, 2) := by decide +kernel
theorem dX12_weigh_120 : decode cX12_weigh 120 = .ok (.if_icmp .le 13, 3) := by decide +kernel
theorem dX12_weigh_123 : decode cX12_weigh 123 = .ok (.aload_n 0, 1) := by decide +kernel
theorem dX12_weigh_124 : decode cX12_weigh 124 = .ok (.getfield 96, 3) := by decide +kernel
theorem dX12_weigh_127 : decode cX12_weigh 127 = .ok (.iload 6, 2) := by decide +kernel
theorem dX12_weigh_129 : decode cX12_weigh 129 = .ok (.iaload, 1) := by decide +kernel
theorem dX12_weigh_130 : decode cX12_weigh 130 = .ok (.goto 5, 3) := by decide +kernel
theorem dX12_weigh_133 : decode cX12_weigh 133 = .ok (.iload 5, 2) := by decide +kernel
theorem dX12_weigh_135 : decode cX12_weigh 135 = .ok (.istore 5, 2) := by decide +kernel
theorem dX12_weigh_137 : decode cX12_weigh 137 = .ok (.iinc 6 1, 3) := by decide +kernel
theorem dX12_weigh_140 : decode cX12_weigh 140 = .ok (.goto (-107), 3) := by decide +kernel
theorem dX12_weigh_143 : decode cX12_weigh 143 = .ok (.iload_n 2, 1) := by decide +kernel
theorem dX12_weigh_144 : decode cX12_weigh 144 = .ok (.aload_n 0, 1) := by decide +kernel
theorem dX12_weigh_145 : decode cX12_weigh 145 = .ok (.getfield 403, 3) := by decide +kernel
theorem dX12_weigh_148 : decode cX12_weigh 148 = .ok (.if_icmp .gt 43, 3) := by decide +kernel
theorem dX12_weigh_151 : decode cX12_weigh 151 = .ok (.iload_n 2, 1) := by decide +kernel
theorem dX12_weigh_152 : decode cX12_weigh 152 = .ok (.aload_n 0, 1) := by decide +kernel
theorem dX12_weigh_153 : decode cX12_weigh 153 = .ok (.getfield 403, 3) := by decide +kernel
theorem dX12_weigh_156 : decode cX12_weigh 156 = .ok (.if_icmp .ne 39, 3) := by decide +kernel
theorem dX12_weigh_159 : decode cX12_weigh 159 = .ok (.iload_n 3, 1) := by decide +kernel
theorem dX12_weigh_160 : decode cX12_weigh 160 = .ok (.iload_n 2, 1) := by decide +kernel
theorem dX12_weigh_161 : decode cX12_weigh 161 = .ok (.isub, 1) := by decide +kernel
theorem dX12_weigh_162 : decode cX12_weigh 162 = .ok (.aload_n 0, 1) := by decide +kernel
theorem dX12_weigh_163 : decode cX12_weigh 163 = .ok (.getfield 406, 3) := by decide +kernel
theorem dX12_weigh_166 : decode cX12_weigh 166 = .ok (.if_icmp .lt 25, 3) := by decide +kernel
theorem dX12_weigh_169 : decode cX12_weigh 169 = .ok (.iload_n 3, 1) := by decide +kernel
theorem dX12_weigh_170 : decode cX12_weigh 170 = .ok (.iload_n 2, 1) := by decide +kernel
theorem dX12_weigh_171 : decode cX12_weigh 171 = .ok (.isub, 1) := by decide +kernel
theorem dX12_weigh_172 : decode cX12_weigh 172 = .ok (.aload_n 0, 1) := by decide +kernel
theorem dX12_weigh_173 : decode cX12_weigh 173 = .ok (.getfield 406, 3) := by decide +kernel
theorem dX12_weigh_176 : decode cX12_weigh 176 = .ok (.if_icmp .ne 19, 3) := by decide +kernel
theorem dX12_weigh_179 : decode cX12_weigh 179 = .ok (.iload 5, 2) := by decide +kernel
theorem dX12_weigh_181 : decode cX12_weigh 181 = .ok (.iload 4, 2) := by decide +kernel
theorem dX12_weigh_183 : decode cX12_weigh 183 = .ok (.isub, 1) := by decide +kernel
theorem dX12_weigh_184 : decode cX12_weigh 184 = .ok (.aload_n 0, 1) := by decide +kernel
theorem dX12_weigh_185 : decode cX12_weigh 185 = .ok (.getfield 409, 3) := by decide +kernel
theorem dX12_weigh_188 : decode cX12_weigh 188 = .ok (.if_icmp .ge 7, 3) := by decide +kernel
theorem dX12_weigh_191 : decode cX12_weigh 191 = .ok (.iconst 1, 1) := by decide +kernel
theorem dX12_weigh_192 : decode cX12_weigh 192 = .ok (.goto 4, 3) := by decide +kernel
theorem dX12_weigh_195 : decode cX12_weigh 195 = .ok (.iconst 0, 1) := by decide +kernel
theorem dX12_weigh_196 : decode cX12_weigh 196 = .ok (.istore 6, 2) := by decide +kernel
theorem dX12_weigh_198 : decode cX12_weigh 198 = .ok (.iload 6, 2) := by decide +kernel
theorem dX12_weigh_200 : decode cX12_weigh 200 = .ok (.ifCond .ne 4, 3) := by decide +kernel
theorem dX12_weigh_203 : decode cX12_weigh 203 = .ok (.return_, 1) := by decide +kernel
theorem dX12_weigh_204 : decode cX12_weigh 204 = .ok (.aload_n 0, 1) := by decide +kernel
theorem dX12_weigh_205 : decode cX12_weigh 205 = .ok (.iload_n 2, 1) := by decide +kernel
theorem dX12_weigh_206 : decode cX12_weigh 206 = .ok (.putfield 403, 3) := by decide +kernel
theorem dX12_weigh_209 : decode cX12_weigh 209 = .ok (.aload_n 0, 1) := by decide +kernel
theorem dX12_weigh_210 : decode cX12_weigh 210 = .ok (.iload_n 3, 1) := by decide +kernel
theorem dX12_weigh_211 : decode cX12_weigh 211 = .ok (.iload_n 2, 1) := by decide +kernel
theorem dX12_weigh_212 : decode cX12_weigh 212 = .ok (.isub, 1) := by decide +kernel
theorem dX12_weigh_213 : decode cX12_weigh 213 = .ok (.putfield 406, 3) := by decide +kernel
theorem dX12_weigh_216 : decode cX12_weigh 216 = .ok (.aload_n 0, 1) := by decide +kernel
theorem dX12_weigh_217 : decode cX12_weigh 217 = .ok (.iload 5, 2) := by decide +kernel
theorem dX12_weigh_219 : decode cX12_weigh 219 = .ok (.iload 4, 2) := by decide +kernel
theorem dX12_weigh_221 : decode cX12_weigh 221 = .ok (.isub, 1) := by decide +kernel
theorem dX12_weigh_222 : decode cX12_weigh 222 = .ok (.putfield 409, 3) := by decide +kernel
theorem dX12_weigh_225 : decode cX12_weigh 225 = .ok (.iconst 0, 1) := by decide +kernel
theorem dX12_weigh_226 : decode cX12_weigh 226 = .ok (.istore 7, 2) := by decide +kernel
theorem dX12_weigh_228 : decode cX12_weigh 228 = .ok (.iload 7, 2) := by decide +kernel
theorem dX12_weigh_230 : decode cX12_weigh 230 = .ok (.aload_n 0, 1) := by decide +kernel
theorem dX12_weigh_231 : decode cX12_weigh 231 = .ok (.getfield 397, 3) := by decide +kernel
theorem dX12_weigh_234 : decode cX12_weigh 234 = .ok (.if_icmp .ge 23, 3) := by decide +kernel
theorem dX12_weigh_237 : decode cX12_weigh 237 = .ok (.aload_n 0, 1) := by decide +kernel
theorem dX12_weigh_238 : decode cX12_weigh 238 = .ok (.getfield 99, 3) := by decide +kernel
theorem dX12_weigh_241 : decode cX12_weigh 241 = .ok (.iload 7, 2) := by decide +kernel
theorem dX12_weigh_243 : decode cX12_weigh 243 = .ok (.aload_n 0, 1) := by decide +kernel
theorem dX12_weigh_244 : decode cX12_weigh 244 = .ok (.getfield 84, 3) := by decide +kernel
theorem dX12_weigh_247 : decode cX12_weigh 247 = .ok (.iload 7, 2) := by decide +kernel
theorem dX12_weigh_249 : decode cX12_weigh 249 = .ok (.iaload, 1) := by decide +kernel
theorem dX12_weigh_250 : decode cX12_weigh 250 = .ok (.iastore, 1) := by decide +kernel
theorem dX12_weigh_251 : decode cX12_weigh 251 = .ok (.iinc 7 1, 3) := by decide +kernel
theorem dX12_weigh_254 : decode cX12_weigh 254 = .ok (.goto (-26), 3) := by decide +kernel
theorem dX12_weigh_257 : decode cX12_weigh 257 = .ok (.return_, 1) := by decide +kernel
theorem dX12_put_0 : decode cX12_put 0 = .ok (.aload_n 0, 1) := by decide +kernel
theorem dX12_put_1 : decode cX12_put 1 = .ok (.getfield 90, 3) := by decide +kernel
theorem dX12_put_4 : decode cX12_put 4 = .ok (.iload_n 2, 1) := by decide +kernel
theorem dX12_put_5 : decode cX12_put 5 = .ok (.dup2, 1) := by decide +kernel
theorem dX12_put_6 : decode cX12_put 6 = .ok (.iaload, 1) := by decide +kernel
theorem dX12_put_7 : decode cX12_put 7 = .ok (.iload_n 3, 1) := by decide +kernel
theorem dX12_put_8 : decode cX12_put 8 = .ok (.iadd, 1) := by decide +kernel
theorem dX12_put_9 : decode cX12_put 9 = .ok (.iastore, 1) := by decide +kernel
theorem dX12_put_10 : decode cX12_put 10 = .ok (.aload_n 0, 1) := by decide +kernel
theorem dX12_put_11 : decode cX12_put 11 = .ok (.getfield 93, 3) := by decide +kernel
theorem dX12_put_14 : decode cX12_put 14 = .ok (.iload_n 2, 1) := by decide +kernel
theorem dX12_put_15 : decode cX12_put 15 = .ok (.dup2, 1) := by decide +kernel
theorem dX12_put_16 : decode cX12_put 16 = .ok (.iaload, 1) := by decide +kernel
theorem dX12_put_17 : decode cX12_put 17 = .ok (.iload_n 3, 1) := by decide +kernel
theorem dX12_put_18 : decode cX12_put 18 = .ok (.aload_n 0, 1) := by decide +kernel
theorem dX12_put_19 : decode cX12_put 19 = .ok (.getfield 57, 3) := by decide +kernel
theorem dX12_put_22 : decode cX12_put 22 = .ok (.aload_n 0, 1) := by decide +kernel
theorem dX12_put_23 : decode cX12_put 23 = .ok (.getfield 81, 3) := by decide +kernel
theorem dX12_put_26 : decode cX12_put 26 = .ok (.iload_n 1, 1) := by decide +kernel
theorem dX12_put_27 : decode cX12_put 27 = .ok (.iaload, 1) := by decide +kernel
theorem dX12_put_28 : decode cX12_put 28 = .ok (.iaload, 1) := by decide +kernel
theorem dX12_put_29 : decode cX12_put 29 = .ok (.imul, 1) := by decide +kernel
theorem dX12_put_30 : decode cX12_put 30 = .ok (.iadd, 1) := by decide +kernel
theorem dX12_put_31 : decode cX12_put 31 = .ok (.iastore, 1) := by decide +kernel
theorem dX12_put_32 : decode cX12_put 32 = .ok (.aload_n 0, 1) := by decide +kernel
theorem dX12_put_33 : decode cX12_put 33 = .ok (.getfield 96, 3) := by decide +kernel
theorem dX12_put_36 : decode cX12_put 36 = .ok (.iload_n 2, 1) := by decide +kernel
theorem dX12_put_37 : decode cX12_put 37 = .ok (.dup2, 1) := by decide +kernel
theorem dX12_put_38 : decode cX12_put 38 = .ok (.iaload, 1) := by decide +kernel
theorem dX12_put_39 : decode cX12_put 39 = .ok (.iload_n 3, 1) := by decide +kernel
theorem dX12_put_40 : decode cX12_put 40 = .ok (.aload_n 0, 1) := by decide +kernel
theorem dX12_put_41 : decode cX12_put 41 = .ok (.aload_n 0, 1) := by decide +kernel
theorem dX12_put_42 : decode cX12_put 42 = .ok (.getfield 81, 3) := by decide +kernel
theorem dX12_put_45 : decode cX12_put 45 = .ok (.iload_n 1, 1) := by decide +kernel
theorem dX12_put_46 : decode cX12_put 46 = .ok (.iaload, 1) := by decide +kernel
theorem dX12_put_47 : decode cX12_put 47 = .ok (.invokevirtual 328, 3) := by decide +kernel
theorem dX12_put_50 : decode cX12_put 50 = .ok (.imul, 1) := by decide +kernel
theorem dX12_put_51 : decode cX12_put 51 = .ok (.iadd, 1) := by decide +kernel
theorem dX12_put_52 : decode cX12_put 52 = .ok (.iastore, 1) := by decide +kernel
theorem dX12_put_53 : decode cX12_put 53 = .ok (.return_, 1) := by decide +kernel
theorem dX12_rows_0 : decode cX12_rows 0 = .ok (.aload_n 0, 1) := by decide +kernel
theorem dX12_rows_1 : decode cX12_rows 1 = .ok (.iconst 0, 1) := by decide +kernel
theorem dX12_rows_2 : decode cX12_rows 2 = .ok (.putfield 1, 3) := by decide +kernel
theorem dX12_rows_5 : decode cX12_rows 5 = .ok (.aload_n 0, 1) := by decide +kernel
theorem dX12_rows_6 : decode cX12_rows 6 = .ok (.sipush 540, 3) := by decide +kernel
theorem dX12_rows_9 : decode cX12_rows 9 = .ok (.invokevirtual 292, 3) := by decide +kernel
theorem dX12_rows_12 : decode cX12_rows 12 = .ok (.aload_n 0, 1) := by decide +kernel
theorem dX12_rows_13 : decode cX12_rows 13 = .ok (.iconst 2, 1) := by decide +kernel
theorem dX12_rows_14 : decode cX12_rows 14 = .ok (.bipush 12, 2) := by decide +kernel
theorem dX12_rows_16 : decode cX12_rows 16 = .ok (.invokevirtual 412, 3) := by decide +kernel
theorem dX12_rows_19 : decode cX12_rows 19 = .ok (.ifCond .eq 25, 3) := by decide +kernel
theorem dX12_rows_22 : decode cX12_rows 22 = .ok (.iload_n 1, 1) := by decide +kernel
theorem dX12_rows_23 : decode cX12_rows 23 = .ok (.iconst 1, 1) := by decide +kernel
theorem dX12_rows_24 : decode cX12_rows 24 = .ok (.if_icmp .lt 20, 3) := by decide +kernel
theorem dX12_rows_27 : decode cX12_rows 27 = .ok (.iload_n 1, 1) := by decide +kernel
theorem dX12_rows_28 : decode cX12_rows 28 = .ok (.aload_n 0, 1) := by decide +kernel
theorem dX12_rows_29 : decode cX12_rows 29 = .ok (.getfield 397, 3) := by decide +kernel
theorem dX12_rows_32 : decode cX12_rows 32 = .ok (.if_icmp .gt 12, 3) := by decide +kernel
theorem dX12_rows_35 : decode cX12_rows 35 = .ok (.aload_n 0, 1) := by decide +kernel
theorem dX12_rows_36 : decode cX12_rows 36 = .ok (.getfield 397, 3) := by decide +kernel
theorem dX12_rows_39 : decode cX12_rows 39 = .ok (.iload_n 1, 1) := by decide +kernel
theorem dX12_rows_40 : decode cX12_rows 40 = .ok (.irem, 1) := by decide +kernel
theorem dX12_rows_41 : decode cX12_rows 41 = .ok (.ifCond .eq 5, 3) := by decide +kernel
theorem dX12_rows_44 : decode cX12_rows 44 = .ok (.iconst (-1), 1) := by decide +kernel
theorem dX12_rows_45 : decode cX12_rows 45 = .ok (.ireturn, 1) := by decide +kernel
theorem dX12_rows_46 : decode cX12_rows 46 = .ok (.iconst 0, 1) := by decide +kernel
theorem dX12_rows_47 : decode cX12_rows 47 = .ok (.istore_n 2, 1) := by decide +kernel
theorem dX12_rows_48 : decode cX12_rows 48 = .ok (.iload_n 2, 1) := by decide +kernel
theorem dX12_rows_49 : decode cX12_rows 49 = .ok (.iload_n 1, 1) := by decide +kernel
theorem dX12_rows_50 : decode cX12_rows 50 = .ok (.if_icmp .ge 30, 3) := by decide +kernel
theorem dX12_rows_53 : decode cX12_rows 53 = .ok (.aload_n 0, 1) := by decide +kernel
theorem dX12_rows_54 : decode cX12_rows 54 = .ok (.getfield 90, 3) := by decide +kernel
theorem dX12_rows_57 : decode cX12_rows 57 = .ok (.iload_n 2, 1) := by decide +kernel
theorem dX12_rows_58 : decode cX12_rows 58 = .ok (.iconst 0, 1) := by decide +kernel
theorem dX12_rows_59 : decode cX12_rows 59 = .ok (.iastore, 1) := by decide +kernel
theorem dX12_rows_60 : decode cX12_rows 60 = .ok (.aload_n 0, 1) := by decide +kernel
theorem dX12_rows_61 : decode cX12_rows 61 = .ok (.getfield 93, 3) := by decide +kernel
theorem dX12_rows_64 : decode cX12_rows 64 = .ok (.iload_n 2, 1) := by decide +kernel
theorem dX12_rows_65 : decode cX12_rows 65 = .ok (.iconst 0, 1) := by decide +kernel
theorem dX12_rows_66 : decode cX12_rows 66 = .ok (.iastore, 1) := by decide +kernel
theorem dX12_rows_67 : decode cX12_rows 67 = .ok (.aload_n 0, 1) := by decide +kernel
theorem dX12_rows_68 : decode cX12_rows 68 = .ok (.getfield 96, 3) := by decide +kernel
theorem dX12_rows_71 : decode cX12_rows 71 = .ok (.iload_n 2, 1) := by decide +kernel
theorem dX12_rows_72 : decode cX12_rows 72 = .ok (.iconst 0, 1) := by decide +kernel
theorem dX12_rows_73 : decode cX12_rows 73 = .ok (.iastore, 1) := by decide +kernel
theorem dX12_rows_74 : decode cX12_rows 74 = .ok (.iinc 2 1, 3) := by decide +kernel
theorem dX12_rows_77 : decode cX12_rows 77 = .ok (.goto (-29), 3) := by decide +kernel
theorem dX12_rows_80 : decode cX12_rows 80 = .ok (.aload_n 0, 1) := by decide +kernel
theorem dX12_rows_81 : decode cX12_rows 81 = .ok (.iconst (-1), 1) := by decide +kernel
theorem dX12_rows_82 : decode cX12_rows 82 = .ok (.putfield 403, 3) := by decide +kernel
theorem dX12_rows_85 : decode cX12_rows 85 = .ok (.iconst 0, 1) := by decide +kernel
theorem dX12_rows_86 : decode cX12_rows 86 = .ok (.istore_n 2, 1) := by decide +kernel
theorem dX12_rows_87 : decode cX12_rows 87 = .ok (.aload_n 0, 1) := by decide +kernel
theorem dX12_rows_88 : decode cX12_rows 88 = .ok (.getfield 87, 3) := by decide +kernel
theorem dX12_rows_91 : decode cX12_rows 91 = .ok (.iconst 0, 1) := by decide +kernel
theorem dX12_rows_92 : decode cX12_rows 92 = .ok (.iconst 0, 1) := by decide +kernel
theorem dX12_rows_93 : decode cX12_rows 93 = .ok (.iastore, 1) := by decide +kernel
theorem dX12_rows_94 : decode cX12_rows 94 = .ok (.iconst 0, 1) := by decide +kernel
theorem dX12_rows_95 : decode cX12_rows 95 = .ok (.istore_n 3, 1) := by decide +kernel
theorem dX12_rows_96 : decode cX12_rows 96 = .ok (.iload_n 2, 1) := by decide +kernel
theorem dX12_rows_97 : decode cX12_rows 97 = .ok (.ifCond .lt 186, 3) := by decide +kernel
theorem dX12_rows_100 : decode cX12_rows 100 = .ok (.iload_n 2, 1) := by decide +kernel
theorem dX12_rows_101 : decode cX12_rows 101 = .ok (.aload_n 0, 1) := by decide +kernel
theorem dX12_rows_102 : decode cX12_rows 102 = .ok (.getfield 397, 3) := by decide +kernel
theorem dX12_rows_105 : decode cX12_rows 105 = .ok (.if_icmp .ne 26, 3) := by decide +kernel
theorem dX12_rows_108 : decode cX12_rows 108 = .ok (.aload_n 0, 1) := by decide +kernel
theorem dX12_rows_109 : decode cX12_rows 109 = .ok (.iload_n 1, 1) := by decide +kernel
theorem dX12_rows_110 : decode cX12_rows 110 = .ok (.invokevirtual 415, 3) := by decide +kernel
theorem dX12_rows_113 : decode cX12_rows 113 = .ok (.iinc 2 (-1), 3) := by decide +kernel
theorem dX12_rows_116 : decode cX12_rows 116 = .ok (.aload_n 0, 1) := by decide +kernel
theorem dX12_rows_117 : decode cX12_rows 117 = .ok (.iload_n 2, 1) := by decide +kernel
theorem dX12_rows_118 : decode cX12_rows 118 = .ok (.aload_n 0, 1) := by decide +kernel
theorem dX12_rows_119 : decode cX12_rows 119 = .ok (.getfield 84, 3) := by decide +kernel
theorem dX12_rows_122 : decode cX12_rows 122 = .ok (.iload_n 2, 1) := by decide +kernel
theorem dX12_rows_123 : decode cX12_rows 123 = .ok (.iaload, 1) := by decide +kernel
theorem dX12_rows_124 : decode cX12_rows 124 = .ok (.iconst (-1), 1) := by decide +kernel
theorem dX12_rows_125 : decode cX12_rows 125 = .ok (.invokevirtual 418, 3) := by decide +kernel
theorem dX12_rows_128 : decode cX12_rows 128 = .ok (.goto (-32), 3) := by decide +kernel
theorem dX12_rows_131 : decode cX12_rows 131 = .ok (.iconst 0, 1) := by decide +kernel
theorem dX12_rows_132 : decode cX12_rows 132 = .ok (.istore_n 3, 1) := by decide +kernel
theorem dX12_rows_133 : decode cX12_rows 133 = .ok (.iconst 0, 1) := by decide +kernel
theorem dX12_rows_134 : decode cX12_rows 134 = .ok (.istore 4, 2) := by decide +kernel
theorem dX12_rows_136 : decode cX12_rows 136 = .ok (.iload 4, 2) := by decide +kernel
theorem dX12_rows_138 : decode cX12_rows 138 = .ok (.iload_n 2, 1) := by decide +kernel
theorem dX12_rows_139 : decode cX12_rows 139 = .ok (.if_icmp .ge 36, 3) := by decide +kernel
theorem dX12_rows_142 : decode cX12_rows 142 = .ok (.aload_n 0, 1) := by decide +kernel
theorem dX12_rows_143 : decode cX12_rows 143 = .ok (.getfield 84, 3) := by decide +kernel
theorem dX12_rows_146 : decode cX12_rows 146 = .ok (.iload 4, 2) := by decide +kernel
theorem dX12_rows_148 : decode cX12_rows 148 = .ok (.iaload, 1) := by decide +kernel
theorem dX12_rows_149 : decode cX12_rows 149 = .ok (.iconst 1, 1) := by decide +kernel
theorem dX12_rows_150 : decode cX12_rows 150 = .ok (.iadd, 1) := by decide +kernel
theorem dX12_rows_151 : decode cX12_rows 151 = .ok (.iload_n 3, 1) := by decide +kernel
theorem dX12_rows_152 : decode cX12_rows 152 = .ok (.if_icmp .le 15, 3) := by decide +kernel
theorem dX12_rows_155 : decode cX12_rows 155 = .ok (.aload_n 0, 1) := by decide +kernel
theorem dX12_rows_156 : decode cX12_rows 156 = .ok (.getfield 84, 3) := by decide +kernel
theorem dX12_rows_159 : decode cX12_rows 159 = .ok (.iload 4, 2) := by decide +kernel
theorem dX12_rows_161 : decode cX12_rows 161 = .ok (.iaload, 1) := by decide +kernel
theorem dX12_rows_162 : decode cX12_rows 162 = .ok (.iconst 1, 1) := by decide +kernel
theorem dX12_rows_163 : decode cX12_rows 163 = .ok (.iadd, 1) := by decide +kernel
theorem dX12_rows_164 : decode cX12_rows 164 = .ok (.goto 4, 3) := by decide +kernel
theorem dX12_rows_167 : decode cX12_rows 167 = .ok (.iload_n 3, 1) := by decide +kernel
theorem dX12_rows_168 : decode cX12_rows 168 = .ok (.istore_n 3, 1) := by decide +kernel
theorem dX12_rows_169 : decode cX12_rows 169 = .ok (.iinc 4 1, 3) := by decide +kernel
theorem dX12_rows_172 : decode cX12_rows 172 = .ok (.goto (-36), 3) := by decide +kernel
theorem dX12_rows_175 : decode cX12_rows 175 = .ok (.aload_n 0, 1) := by decide +kernel
theorem dX12_rows_176 : decode cX12_rows 176 = .ok (.getfield 87, 3) := by decide +kernel
theorem dX12_rows_179 : decode cX12_rows 179 = .ok (.iload_n 2, 1) := by decide +kernel
theorem dX12_rows_180 : decode cX12_rows 180 = .ok (.iaload, 1) := by decide +kernel
theorem dX12_rows_181 : decode cX12_rows 181 = .ok (.istore 4, 2) := by decide +kernel
theorem dX12_rows_183 : decode cX12_rows 183 = .ok (.aload_n 0, 1) := by decide +kernel
theorem dX12_rows_184 : decode cX12_rows 184 = .ok (.getfield 87, 3) := by decide +kernel
theorem dX12_rows_187 : decode cX12_rows 187 = .ok (.iload_n 2, 1) := by decide +kernel
theorem dX12_rows_188 : decode cX12_rows 188 = .ok (.dup2, 1) := by decide +kernel
theorem dX12_rows_189 : decode cX12_rows 189 = .ok (.iaload, 1) := by decide +kernel
theorem dX12_rows_190 : decode cX12_rows 190 = .ok (.iconst 1, 1) := by decide +kernel
theorem dX12_rows_191 : decode cX12_rows 191 = .ok (.iadd, 1) := by decide +kernel
theorem dX12_rows_192 : decode cX12_rows 192 = .ok (.iastore, 1) := by decide +kernel
theorem dX12_rows_193 : decode cX12_rows 193 = .ok (.iload 4, 2) := by decide +kernel
theorem dX12_rows_195 : decode cX12_rows 195 = .ok (.iload_n 3, 1) := by decide +kernel
theorem dX12_rows_196 : decode cX12_rows 196 = .ok (.if_icmp .gt 9, 3) := by decide +kernel
theorem dX12_rows_199 : decode cX12_rows 199 = .ok (.iload 4, 2) := by decide +kernel
theorem dX12_rows_201 : decode cX12_rows 201 = .ok (.iload_n 1, 1) := by decide +kernel
theorem dX12_rows_202 : decode cX12_rows 202 = .ok (.if_icmp .lt 25, 3) := by decide +kernel
theorem dX12_rows_205 : decode cX12_rows 205 = .ok (.iinc 2 (-1), 3) := by decide +kernel
theorem dX12_rows_208 : decode cX12_rows 208 = .ok (.iload_n 2, 1) := by decide +kernel
theorem dX12_rows_209 : decode cX12_rows 209 = .ok (.ifCond .lt (-113), 3) := by decide +kernel
theorem dX12_rows_212 : decode cX12_rows 212 = .ok (.aload_n 0, 1) := by decide +kernel
theorem dX12_rows_213 : decode cX12_rows 213 = .ok (.iload_n 2, 1) := by decide +kernel
theorem dX12_rows_214 : decode cX12_rows 214 = .ok (.aload_n 0, 1) := by decide +kernel
theorem dX12_rows_215 : decode cX12_rows 215 = .ok (.getfield 84, 3) := by decide +kernel
theorem dX12_rows_218 : decode cX12_rows 218 = .ok (.iload_n 2, 1) := by decide +kernel
theorem dX12_rows_219 : decode cX12_rows 219 = .ok (.iaload, 1) := by decide +kernel
theorem dX12_rows_220 : decode cX12_rows 220 = .ok (.iconst (-1), 1) := by decide +kernel
theorem dX12_rows_221 : decode cX12_rows 221 = .ok (.invokevirtual 418, 3) := by decide +kernel
theorem dX12_rows_224 : decode cX12_rows 224 = .ok (.goto (-128), 3) := by decide +kernel
theorem dX12_rows_227 : decode cX12_rows 227 = .ok (.aload_n 0, 1) := by decide +kernel
theorem dX12_rows_228 : decode cX12_rows 228 = .ok (.getfield 90, 3) := by decide +kernel
theorem dX12_rows_231 : decode cX12_rows 231 = .ok (.iload 4, 2) := by decide +kernel
theorem dX12_rows_233 : decode cX12_rows 233 = .ok (.iaload, 1) := by decide +kernel
theorem dX12_rows_234 : decode cX12_rows 234 = .ok (.aload_n 0, 1) := by decide +kernel
theorem dX12_rows_235 : decode cX12_rows 235 = .ok (.getfield 397, 3) := by decide +kernel
theorem dX12_rows_238 : decode cX12_rows 238 = .ok (.iload_n 1, 1) := by decide +kernel
theorem dX12_rows_239 : decode cX12_rows 239 = .ok (.idiv, 1) := by decide +kernel
theorem dX12_rows_240 : decode cX12_rows 240 = .ok (.if_icmp .ne 6, 3) := by decide +kernel
theorem dX12_rows_243 : decode cX12_rows 243 = .ok (.goto (-147), 3) := by decide +kernel
theorem dX12_rows_246 : decode cX12_rows 246 = .ok (.aload_n 0, 1) := by decide +kernel
theorem dX12_rows_247 : decode cX12_rows 247 = .ok (.getfield 84, 3) := by decide +kernel
theorem dX12_rows_250 : decode cX12_rows 250 = .ok (.iload_n 2, 1) := by decide +kernel
theorem dX12_rows_251 : decode cX12_rows 251 = .ok (.iload 4, 2) := by decide +kernel
theorem dX12_rows_253 : decode cX12_rows 253 = .ok (.iastore, 1) := by decide +kernel
theorem dX12_rows_254 : decode cX12_rows 254 = .ok (.aload_n 0, 1) := by decide +kernel
theorem dX12_rows_255 : decode cX12_rows 255 = .ok (.iload_n 2, 1) := by decide +kernel
theorem dX12_rows_256 : decode cX12_rows 256 = .ok (.iload 4, 2) := by decide +kernel
theorem dX12_rows_258 : decode cX12_rows 258 = .ok (.iconst 1, 1) := by decide +kernel
theorem dX12_rows_259 : decode cX12_rows 259 = .ok (.invokevirtual 418, 3) := by decide +kernel
theorem dX12_rows_262 : decode cX12_rows 262 = .ok (.iinc 2 1, 3) := by decide +kernel
theorem dX12_rows_265 : decode cX12_rows 265 = .ok (.iload_n 2, 1) := by decide +kernel
theorem dX12_rows_266 : decode cX12_rows 266 = .ok (.aload_n 0, 1) := by decide +kernel
theorem dX12_rows_267 : decode cX12_rows 267 = .ok (.getfield 397, 3) := by decide +kernel
theorem dX12_rows_270 : decode cX12_rows 270 = .ok (.if_icmp .ge 10, 3) := by decide +kernel
theorem dX12_rows_273 : decode cX12_rows 273 = .ok (.aload_n 0, 1) := by decide +kernel
theorem dX12_rows_274 : decode cX12_rows 274 = .ok (.getfield 87, 3) := by decide +kernel
theorem dX12_rows_277 : decode cX12_rows 277 = .ok (.iload_n 2, 1) := by decide +kernel
theorem dX12_rows_278 : decode cX12_rows 278 = .ok (.iconst 0, 1) := by decide +kernel
theorem dX12_rows_279 : decode cX12_rows 279 = .ok (.iastore, 1) := by decide +kernel
theorem dX12_rows_280 : decode cX12_rows 280 = .ok (.goto (-184), 3) := by decide +kernel
theorem dX12_rows_283 : decode cX12_rows 283 = .ok (.aload_n 0, 1) := by decide +kernel
theorem dX12_rows_284 : decode cX12_rows 284 = .ok (.aload_n 0, 1) := by decide +kernel
theorem dX12_rows_285 : decode cX12_rows 285 = .ok (.getfield 397, 3) := by decide +kernel
theorem dX12_rows_288 : decode cX12_rows 288 = .ok (.putfield 421, 3) := by decide +kernel
theorem dX12_rows_291 : decode cX12_rows 291 = .ok (.aload_n 0, 1) := by decide +kernel
theorem dX12_rows_292 : decode cX12_rows 292 = .ok (.aload_n 0, 1) := by decide +kernel
theorem dX12_rows_293 : decode cX12_rows 293 = .ok (.getfield 406, 3) := by decide +kernel
theorem dX12_rows_296 : decode cX12_rows 296 = .ok (.putfield 424, 3) := by decide +kernel
theorem dX12_rows_299 : decode cX12_rows 299 = .ok (.aload_n 0, 1) := by decide +kernel
theorem dX12_rows_300 : decode cX12_rows 300 = .ok (.aload_n 0, 1) := by decide +kernel
theorem dX12_rows_301 : decode cX12_rows 301 = .ok (.getfield 409, 3) := by decide +kernel
theorem dX12_rows_304 : decode cX12_rows 304 = .ok (.putfield 427, 3) := by decide +kernel
theorem dX12_rows_307 : decode cX12_rows 307 = .ok (.iconst 0, 1) := by decide +kernel
theorem dX12_rows_308 : decode cX12_rows 308 = .ok (.istore 4, 2) := by decide +kernel
theorem dX12_rows_310 : decode cX12_rows 310 = .ok (.iload 4, 2) := by decide +kernel
theorem dX12_rows_312 : decode cX12_rows 312 = .ok (.aload_n 0, 1) := by decide +kernel
theorem dX12_rows_313 : decode cX12_rows 313 = .ok (.getfield 397, 3) := by decide +kernel
theorem dX12_rows_316 : decode cX12_rows 316 = .ok (.if_icmp .ge 23, 3) := by decide +kernel
theorem dX12_rows_319 : decode cX12_rows 319 = .ok (.aload_n 0, 1) := by decide +kernel
theorem dX12_rows_320 : decode cX12_rows 320 = .ok (.getfield 102, 3) := by decide +kernel
theorem dX12_rows_323 : decode cX12_rows 323 = .ok (.iload 4, 2) := by decide +kernel
theorem dX12_rows_325 : decode cX12_rows 325 = .ok (.aload_n 0, 1) := by decide +kernel
theorem dX12_rows_326 : decode cX12_rows 326 = .ok (.getfield 99, 3) := by decide +kernel
theorem dX12_rows_329 : decode cX12_rows 329 = .ok (.iload 4, 2) := by decide +kernel
theorem dX12_rows_331 : decode cX12_rows 331 = .ok (.iaload, 1) := by decide +kernel
theorem dX12_rows_332 : decode cX12_rows 332 = .ok (.iastore, 1) := by decide +kernel
theorem dX12_rows_333 : decode cX12_rows 333 = .ok (.iinc 4 1, 3) := by decide +kernel
theorem dX12_rows_336 : decode cX12_rows 336 = .ok (.goto (-26), 3) := by decide +kernel
theorem dX12_rows_339 : decode cX12_rows 339 = .ok (.aload_n 0, 1) := by decide +kernel
theorem dX12_rows_340 : decode cX12_rows 340 = .ok (.getfield 403, 3) := by decide +kernel
theorem dX12_rows_343 : decode cX12_rows 343 = .ok (.ireturn, 1) := by decide +kernel
theorem dX12_rowAt_0 : decode cX12_rowAt 0 = .ok (.aload_n 0, 1) := by decide +kernel
theorem dX12_rowAt_1 : decode cX12_rowAt 1 = .ok (.iconst 0, 1) := by decide +kernel
theorem dX12_rowAt_2 : decode cX12_rowAt 2 = .ok (.putfield 1, 3) := by decide +kernel
theorem dX12_rowAt_5 : decode cX12_rowAt 5 = .ok (.iload_n 1, 1) := by decide +kernel
theorem dX12_rowAt_6 : decode cX12_rowAt 6 = .ok (.iconst 0, 1) := by decide +kernel
theorem dX12_rowAt_7 : decode cX12_rowAt 7 = .ok (.aload_n 0, 1) := by decide +kernel
theorem dX12_rowAt_8 : decode cX12_rowAt 8 = .ok (.getfield 421, 3) := by decide +kernel
theorem dX12_rowAt_11 : decode cX12_rowAt 11 = .ok (.iconst 1, 1) := by decide +kernel
theorem dX12_rowAt_12 : decode cX12_rowAt 12 = .ok (.isub, 1) := by decide +kernel
theorem dX12_rowAt_13 : decode cX12_rowAt 13 = .ok (.invokestatic 262, 3) := by decide +kernel
theorem dX12_rowAt_16 : decode cX12_rowAt 16 = .ok (.ifCond .eq 12, 3) := by decide +kernel
theorem dX12_rowAt_19 : decode cX12_rowAt 19 = .ok (.aload_n 0, 1) := by decide +kernel
theorem dX12_rowAt_20 : decode cX12_rowAt 20 = .ok (.getfield 102, 3) := by decide +kernel
theorem dX12_rowAt_23 : decode cX12_rowAt 23 = .ok (.iload_n 1, 1) := by decide +kernel
theorem dX12_rowAt_24 : decode cX12_rowAt 24 = .ok (.iaload, 1) := by decide +kernel
theorem dX12_rowAt_25 : decode cX12_rowAt 25 = .ok (.goto 4, 3) := by decide +kernel
theorem dX12_rowAt_28 : decode cX12_rowAt 28 = .ok (.iconst (-1), 1) := by decide +kernel
theorem dX12_rowAt_29 : decode cX12_rowAt 29 = .ok (.ireturn, 1) := by decide +kernel
theorem dX12_rowsBy_0 : decode cX12_rowsBy 0 = .ok (.aload_n 0, 1) := by decide +kernel
theorem dX12_rowsBy_1 : decode cX12_rowsBy 1 = .ok (.iconst 0, 1) := by decide +kernel
theorem dX12_rowsBy_2 : decode cX12_rowsBy 2 = .ok (.putfield 1, 3) := by decide +kernel
theorem dX12_rowsBy_5 : decode cX12_rowsBy 5 = .ok (.aload_n 0, 1) := by decide +kernel
theorem dX12_rowsBy_6 : decode cX12_rowsBy 6 = .ok (.getfield 421, 3) := by decide +kernel
theorem dX12_rowsBy_9 : decode cX12_rowsBy 9 = .ok (.ifCond .ne 7, 3) := by decide +kernel
theorem dX12_rowsBy_12 : decode cX12_rowsBy 12 = .ok (.iconst (-1), 1) := by decide +kernel
theorem dX12_rowsBy_13 : decode cX12_rowsBy 13 = .ok (.goto 27, 3) := by decide +kernel
theorem dX12_rowsBy_16 : decode cX12_rowsBy 16 = .ok (.iload_n 1, 1) := by decide +kernel
theorem dX12_rowsBy_17 : decode cX12_rowsBy 17 = .ok (.ifCond .ne 10, 3) := by decide +kernel
theorem dX12_rowsBy_20 : decode cX12_rowsBy 20 = .ok (.aload_n 0, 1) := by decide +kernel
theorem dX12_rowsBy_21 : decode cX12_rowsBy 21 = .ok (.getfield 424, 3) := by decide +kernel
theorem dX12_rowsBy_24 : decode cX12_rowsBy 24 = .ok (.goto 16, 3) := by decide +kernel
theorem dX12_rowsBy_27 : decode cX12_rowsBy 27 = .ok (.iload_n 1, 1) := by decide +kernel
theorem dX12_rowsBy_28 : decode cX12_rowsBy 28 = .ok (.iconst 1, 1) := by decide +kernel
theorem dX12_rowsBy_29 : decode cX12_rowsBy 29 = .ok (.if_icmp .ne 10, 3) := by decide +kernel
theorem dX12_rowsBy_32 : decode cX12_rowsBy 32 = .ok (.aload_n 0, 1) := by decide +kernel
theorem dX12_rowsBy_33 : decode cX12_rowsBy 33 = .ok (.getfield 427, 3) := by decide +kernel
theorem dX12_rowsBy_36 : decode cX12_rowsBy 36 = .ok (.goto 4, 3) := by decide +kernel
theorem dX12_rowsBy_39 : decode cX12_rowsBy 39 = .ok (.iconst (-1), 1) := by decide +kernel
theorem dX12_rowsBy_40 : decode cX12_rowsBy 40 = .ok (.ireturn, 1) := by decide +kernel
theorem dX12_weakOf_0 : decode cX12_weakOf 0 = .ok (.aload_n 0, 1) := by decide +kernel
theorem dX12_weakOf_1 : decode cX12_weakOf 1 = .ok (.getfield 93, 3) := by decide +kernel
theorem dX12_weakOf_4 : decode cX12_weakOf 4 = .ok (.iconst 0, 1) := by decide +kernel
theorem dX12_weakOf_5 : decode cX12_weakOf 5 = .ok (.iaload, 1) := by decide +kernel
theorem dX12_weakOf_6 : decode cX12_weakOf 6 = .ok (.istore_n 2, 1) := by decide +kernel
theorem dX12_weakOf_7 : decode cX12_weakOf 7 = .ok (.iconst 1, 1) := by decide +kernel
theorem dX12_weakOf_8 : decode cX12_weakOf 8 = .ok (.istore_n 3, 1) := by decide +kernel
theorem dX12_weakOf_9 : decode cX12_weakOf 9 = .ok (.iload_n 3, 1) := by decide +kernel
theorem dX12_weakOf_10 : decode cX12_weakOf 10 = .ok (.iload_n 1, 1) := by decide +kernel
theorem dX12_weakOf_11 : decode cX12_weakOf 11 = .ok (.if_icmp .ge 30, 3) := by decide +kernel
theorem dX12_weakOf_14 : decode cX12_weakOf 14 = .ok (.aload_n 0, 1) := by decide +kernel
theorem dX12_weakOf_15 : decode cX12_weakOf 15 = .ok (.getfield 93, 3) := by decide +kernel
theorem dX12_weakOf_18 : decode cX12_weakOf 18 = .ok (.iload_n 3, 1) := by decide +kernel
theorem dX12_weakOf_19 : decode cX12_weakOf 19 = .ok (.iaload, 1) := by decide +kernel
theorem dX12_weakOf_20 : decode cX12_weakOf 20 = .ok (.iload_n 2, 1) := by decide +kernel
theorem dX12_weakOf_21 : decode cX12_weakOf 21 = .ok (.if_icmp .ge 12, 3) := by decide +kernel
theorem dX12_weakOf_24 : decode cX12_weakOf 24 = .ok (.aload_n 0, 1) := by decide +kernel
theorem dX12_weakOf_25 : decode cX12_weakOf 25 = .ok (.getfield 93, 3) := by decide +kernel
theorem dX12_weakOf_28 : decode cX12_weakOf 28 = .ok (.iload_n 3, 1) := by decide +kernel
theorem dX12_weakOf_29 : decode cX12_weakOf 29 = .ok (.iaload, 1) := by decide +kernel
theorem dX12_weakOf_30 : decode cX12_weakOf 30 = .ok (.goto 4, 3) := by decide +kernel
theorem dX12_weakOf_33 : decode cX12_weakOf 33 = .ok (.iload_n 2, 1) := by decide +kernel
theorem dX12_weakOf_34 : decode cX12_weakOf 34 = .ok (.istore_n 2, 1) := by decide +kernel
theorem dX12_weakOf_35 : decode cX12_weakOf 35 = .ok (.iinc 3 1, 3) := by decide +kernel
theorem dX12_weakOf_38 : decode cX12_weakOf 38 = .ok (.goto (-29), 3) := by decide +kernel
theorem dX12_weakOf_41 : decode cX12_weakOf 41 = .ok (.iload_n 2, 1) := by decide +kernel
theorem dX12_weakOf_42 : decode cX12_weakOf 42 = .ok (.ireturn, 1) := by decide +kernel
theorem dX12_strongOf_0 : decode cX12_strongOf 0 = .ok (.aload_n 0, 1) := by decide +kernel
theorem dX12_strongOf_1 : decode cX12_strongOf 1 = .ok (.getfield 93, 3) := by decide +kernel
theorem dX12_strongOf_4 : decode cX12_strongOf 4 = .ok (.iconst 0, 1) := by decide +kernel
theorem dX12_strongOf_5 : decode cX12_strongOf 5 = .ok (.iaload, 1) := by decide +kernel
theorem dX12_strongOf_6 : decode cX12_strongOf 6 = .ok (.istore_n 2, 1) := by decide +kernel
theorem dX12_strongOf_7 : decode cX12_strongOf 7 = .ok (.iconst 1, 1) := by decide +kernel
theorem dX12_strongOf_8 : decode cX12_strongOf 8 = .ok (.istore_n 3, 1) := by decide +kernel
theorem dX12_strongOf_9 : decode cX12_strongOf 9 = .ok (.iload_n 3, 1) := by decide +kernel
theorem dX12_strongOf_10 : decode cX12_strongOf 10 = .ok (.iload_n 1, 1) := by decide +kernel
theorem dX12_strongOf_11 : decode cX12_strongOf 11 = .ok (.if_icmp .ge 30, 3) := by decide +kernel
theorem dX12_strongOf_14 : decode cX12_strongOf 14 = .ok (.aload_n 0, 1) := by decide +kernel
theorem dX12_strongOf_15 : decode cX12_strongOf 15 = .ok (.getfield 93, 3) := by decide +kernel
theorem dX12_strongOf_18 : decode cX12_strongOf 18 = .ok (.iload_n 3, 1) := by decide +kernel
theorem dX12_strongOf_19 : decode cX12_strongOf 19 = .ok (.iaload, 1) := by decide +kernel
theorem dX12_strongOf_20 : decode cX12_strongOf 20 = .ok (.iload_n 2, 1) := by decide +kernel
theorem dX12_strongOf_21 : decode cX12_strongOf 21 = .ok (.if_icmp .le 12, 3) := by decide +kernel
theorem dX12_strongOf_24 : decode cX12_strongOf 24 = .ok (.aload_n 0, 1) := by decide +kernel
theorem dX12_strongOf_25 : decode cX12_strongOf 25 = .ok (.getfield 93, 3) := by decide +kernel
theorem dX12_strongOf_28 : decode cX12_strongOf 28 = .ok (.iload_n 3, 1) := by decide +kernel
theorem dX12_strongOf_29 : decode cX12_strongOf 29 = .ok (.iaload, 1) := by decide +kernel
theorem dX12_strongOf_30 : decode cX12_strongOf 30 = .ok (.goto 4, 3) := by decide +kernel
theorem dX12_strongOf_33 : decode cX12_strongOf 33 = .ok (.iload_n 2, 1) := by decide +kernel
theorem dX12_strongOf_34 : decode cX12_strongOf 34 = .ok (.istore_n 2, 1) := by decide +kernel
theorem dX12_strongOf_35 : decode cX12_strongOf 35 = .ok (.iinc 3 1, 3) := by decide +kernel
theorem dX12_strongOf_38 : decode cX12_strongOf 38 = .ok (.goto (-29), 3) := by decide +kernel
theorem dX12_strongOf_41 : decode cX12_strongOf 41 = .ok (.iload_n 2, 1) := by decide +kernel
theorem dX12_strongOf_42 : decode cX12_strongOf 42 = .ok (.ireturn, 1) := by decide +kernel
theorem dX12_move_0 : decode cX12_move 0 = .ok (.aload_n 0, 1) := by decide +kernel
theorem dX12_move_1 : decode cX12_move 1 = .ok (.getfield 57, 3) := by decide +kernel
theorem dX12_move_4 : decode cX12_move 4 = .ok (.aload_n 0, 1) := by decide +kernel
theorem dX12_move_5 : decode cX12_move 5 = .ok (.getfield 81, 3) := by decide +kernel
theorem dX12_move_8 : decode cX12_move 8 = .ok (.iload_n 2, 1) := by decide +kernel
theorem dX12_move_9 : decode cX12_move 9 = .ok (.iaload, 1) := by decide +kernel
theorem dX12_move_10 : decode cX12_move 10 = .ok (.iaload, 1) := by decide +kernel
theorem dX12_move_11 : decode cX12_move 11 = .ok (.aload_n 0, 1) := by decide +kernel
theorem dX12_move_12 : decode cX12_move 12 = .ok (.getfield 57, 3) := by decide +kernel
theorem dX12_move_15 : decode cX12_move 15 = .ok (.aload_n 0, 1) := by decide +kernel
theorem dX12_move_16 : decode cX12_move 16 = .ok (.getfield 81, 3) := by decide +kernel
theorem dX12_move_19 : decode cX12_move 19 = .ok (.iload_n 1, 1) := by decide +kernel
theorem dX12_move_20 : decode cX12_move 20 = .ok (.iaload, 1) := by decide +kernel
theorem dX12_move_21 : decode cX12_move 21 = .ok (.iaload, 1) := by decide +kernel
theorem dX12_move_22 : decode cX12_move 22 = .ok (.isub, 1) := by decide +kernel
theorem dX12_move_23 : decode cX12_move 23 = .ok (.istore_n 3, 1) := by decide +kernel
theorem dX12_move_24 : decode cX12_move 24 = .ok (.aload_n 0, 1) := by decide +kernel
theorem dX12_move_25 : decode cX12_move 25 = .ok (.getfield 93, 3) := by decide +kernel
theorem dX12_move_28 : decode cX12_move 28 = .ok (.aload_n 0, 1) := by decide +kernel
theorem dX12_move_29 : decode cX12_move 29 = .ok (.getfield 84, 3) := by decide +kernel
theorem dX12_move_32 : decode cX12_move 32 = .ok (.iload_n 1, 1) := by decide +kernel
theorem dX12_move_33 : decode cX12_move 33 = .ok (.iaload, 1) := by decide +kernel
theorem dX12_move_34 : decode cX12_move 34 = .ok (.dup2, 1) := by decide +kernel
theorem dX12_move_35 : decode cX12_move 35 = .ok (.iaload, 1) := by decide +kernel
theorem dX12_move_36 : decode cX12_move 36 = .ok (.iload_n 3, 1) := by decide +kernel
theorem dX12_move_37 : decode cX12_move 37 = .ok (.iadd, 1) := by decide +kernel
theorem dX12_move_38 : decode cX12_move 38 = .ok (.iastore, 1) := by decide +kernel
theorem dX12_move_39 : decode cX12_move 39 = .ok (.aload_n 0, 1) := by decide +kernel
theorem dX12_move_40 : decode cX12_move 40 = .ok (.getfield 93, 3) := by decide +kernel
theorem dX12_move_43 : decode cX12_move 43 = .ok (.aload_n 0, 1) := by decide +kernel
theorem dX12_move_44 : decode cX12_move 44 = .ok (.getfield 84, 3) := by decide +kernel
theorem dX12_move_47 : decode cX12_move 47 = .ok (.iload_n 2, 1) := by decide +kernel
theorem dX12_move_48 : decode cX12_move 48 = .ok (.iaload, 1) := by decide +kernel
theorem dX12_move_49 : decode cX12_move 49 = .ok (.dup2, 1) := by decide +kernel
theorem dX12_move_50 : decode cX12_move 50 = .ok (.iaload, 1) := by decide +kernel
theorem dX12_move_51 : decode cX12_move 51 = .ok (.iload_n 3, 1) := by decide +kernel
theorem dX12_move_52 : decode cX12_move 52 = .ok (.isub, 1) := by decide +kernel
theorem dX12_move_53 : decode cX12_move 53 = .ok (.iastore, 1) := by decide +kernel
theorem dX12_move_54 : decode cX12_move 54 = .ok (.aload_n 0, 1) := by decide +kernel
theorem dX12_move_55 : decode cX12_move 55 = .ok (.getfield 84, 3) := by decide +kernel
theorem dX12_move_58 : decode cX12_move 58 = .ok (.iload_n 1, 1) := by decide +kernel
theorem dX12_move_59 : decode cX12_move 59 = .ok (.iaload, 1) := by decide +kernel
theorem dX12_move_60 : decode cX12_move 60 = .ok (.istore 4, 2) := by decide +kernel
theorem dX12_move_62 : decode cX12_move 62 = .ok (.aload_n 0, 1) := by decide +kernel
theorem dX12_move_63 : decode cX12_move 63 = .ok (.getfield 84, 3) := by decide +kernel
theorem dX12_move_66 : decode cX12_move 66 = .ok (.iload_n 1, 1) := by decide +kernel
theorem dX12_move_67 : decode cX12_move 67 = .ok (.aload_n 0, 1) := by decide +kernel
theorem dX12_move_68 : decode cX12_move 68 = .ok (.getfield 84, 3) := by decide +kernel
theorem dX12_move_71 : decode cX12_move 71 = .ok (.iload_n 2, 1) := by decide +kernel
theorem dX12_move_72 : decode cX12_move 72 = .ok (.iaload, 1) := by decide +kernel
theorem dX12_move_73 : decode cX12_move 73 = .ok (.iastore, 1) := by decide +kernel
theorem dX12_move_74 : decode cX12_move 74 = .ok (.aload_n 0, 1) := by decide +kernel
theorem dX12_move_75 : decode cX12_move 75 = .ok (.getfield 84, 3) := by decide +kernel
theorem dX12_move_78 : decode cX12_move 78 = .ok (.iload_n 2, 1) := by decide +kernel
theorem dX12_move_79 : decode cX12_move 79 = .ok (.iload 4, 2) := by decide +kernel
theorem dX12_move_81 : decode cX12_move 81 = .ok (.iastore, 1) := by decide +kernel
theorem dX12_move_82 : decode cX12_move 82 = .ok (.return_, 1) := by decide +kernel
theorem dX12_swapOne_0 : decode cX12_swapOne 0 = .ok (.aload_n 0, 1) := by decide +kernel
theorem dX12_swapOne_1 : decode cX12_swapOne 1 = .ok (.iload_n 1, 1) := by decide +kernel
theorem dX12_swapOne_2 : decode cX12_swapOne 2 = .ok (.invokevirtual 430, 3) := by decide +kernel
theorem dX12_swapOne_5 : decode cX12_swapOne 5 = .ok (.istore_n 2, 1) := by decide +kernel
theorem dX12_swapOne_6 : decode cX12_swapOne 6 = .ok (.aload_n 0, 1) := by decide +kernel
theorem dX12_swapOne_7 : decode cX12_swapOne 7 = .ok (.iload_n 1, 1) := by decide +kernel
theorem dX12_swapOne_8 : decode cX12_swapOne 8 = .ok (.invokevirtual 433, 3) := by decide +kernel
theorem dX12_swapOne_11 : decode cX12_swapOne 11 = .ok (.iload_n 2, 1) := by decide +kernel
theorem dX12_swapOne_12 : decode cX12_swapOne 12 = .ok (.isub, 1) := by decide +kernel
theorem dX12_swapOne_13 : decode cX12_swapOne 13 = .ok (.istore_n 3, 1) := by decide +kernel
theorem dX12_swapOne_14 : decode cX12_swapOne 14 = .ok (.iconst 0, 1) := by decide +kernel
theorem dX12_swapOne_15 : decode cX12_swapOne 15 = .ok (.istore 4, 2) := by decide +kernel
theorem dX12_swapOne_17 : decode cX12_swapOne 17 = .ok (.iload 4, 2) := by decide +kernel
theorem dX12_swapOne_19 : decode cX12_swapOne 19 = .ok (.aload_n 0, 1) := by decide +kernel
theorem dX12_swapOne_20 : decode cX12_swapOne 20 = .ok (.getfield 397, 3) := by decide +kernel
theorem dX12_swapOne_23 : decode cX12_swapOne 23 = .ok (.if_icmp .ge 99, 3) := by decide +kernel
theorem dX12_swapOne_26 : decode cX12_swapOne 26 = .ok (.iload 4, 2) := by decide +kernel
theorem dX12_swapOne_28 : decode cX12_swapOne 28 = .ok (.iconst 1, 1) := by decide +kernel
theorem dX12_swapOne_29 : decode cX12_swapOne 29 = .ok (.iadd, 1) := by decide +kernel
theorem dX12_swapOne_30 : decode cX12_swapOne 30 = .ok (.istore 5, 2) := by decide +kernel
theorem dX12_swapOne_32 : decode cX12_swapOne 32 = .ok (.iload 5, 2) := by decide +kernel
theorem dX12_swapOne_34 : decode cX12_swapOne 34 = .ok (.aload_n 0, 1) := by decide +kernel
theorem dX12_swapOne_35 : decode cX12_swapOne 35 = .ok (.getfield 397, 3) := by decide +kernel
theorem dX12_swapOne_38 : decode cX12_swapOne 38 = .ok (.if_icmp .ge 78, 3) := by decide +kernel
theorem dX12_swapOne_41 : decode cX12_swapOne 41 = .ok (.aload_n 0, 1) := by decide +kernel
theorem dX12_swapOne_42 : decode cX12_swapOne 42 = .ok (.getfield 84, 3) := by decide +kernel
theorem dX12_swapOne_45 : decode cX12_swapOne 45 = .ok (.iload 4, 2) := by decide +kernel
theorem dX12_swapOne_47 : decode cX12_swapOne 47 = .ok (.iaload, 1) := by decide +kernel
theorem dX12_swapOne_48 : decode cX12_swapOne 48 = .ok (.aload_n 0, 1) := by decide +kernel
theorem dX12_swapOne_49 : decode cX12_swapOne 49 = .ok (.getfield 84, 3) := by decide +kernel
theorem dX12_swapOne_52 : decode cX12_swapOne 52 = .ok (.iload 5, 2) := by decide +kernel
theorem dX12_swapOne_54 : decode cX12_swapOne 54 = .ok (.iaload, 1) := by decide +kernel
theorem dX12_swapOne_55 : decode cX12_swapOne 55 = .ok (.if_icmp .ne 6, 3) := by decide +kernel
theorem dX12_swapOne_58 : decode cX12_swapOne 58 = .ok (.goto 52, 3) := by decide +kernel
theorem dX12_swapOne_61 : decode cX12_swapOne 61 = .ok (.aload_n 0, 1) := by decide +kernel
theorem dX12_swapOne_62 : decode cX12_swapOne 62 = .ok (.iload 4, 2) := by decide +kernel
theorem dX12_swapOne_64 : decode cX12_swapOne 64 = .ok (.iload 5, 2) := by decide +kernel
theorem dX12_swapOne_66 : decode cX12_swapOne 66 = .ok (.invokevirtual 436, 3) := by decide +kernel
theorem dX12_swapOne_69 : decode cX12_swapOne 69 = .ok (.aload_n 0, 1) := by decide +kernel
theorem dX12_swapOne_70 : decode cX12_swapOne 70 = .ok (.iload_n 1, 1) := by decide +kernel
theorem dX12_swapOne_71 : decode cX12_swapOne 71 = .ok (.invokevirtual 430, 3) := by decide +kernel
theorem dX12_swapOne_74 : decode cX12_swapOne 74 = .ok (.istore 6, 2) := by decide +kernel
theorem dX12_swapOne_76 : decode cX12_swapOne 76 = .ok (.iload 6, 2) := by decide +kernel
theorem dX12_swapOne_78 : decode cX12_swapOne 78 = .ok (.iload_n 2, 1) := by decide +kernel
theorem dX12_swapOne_79 : decode cX12_swapOne 79 = .ok (.if_icmp .gt 21, 3) := by decide +kernel
theorem dX12_swapOne_82 : decode cX12_swapOne 82 = .ok (.iload 6, 2) := by decide +kernel
theorem dX12_swapOne_84 : decode cX12_swapOne 84 = .ok (.iload_n 2, 1) := by decide +kernel
theorem dX12_swapOne_85 : decode cX12_swapOne 85 = .ok (.if_icmp .ne 17, 3) := by decide +kernel
theorem dX12_swapOne_88 : decode cX12_swapOne 88 = .ok (.aload_n 0, 1) := by decide +kernel
theorem dX12_swapOne_89 : decode cX12_swapOne 89 = .ok (.iload_n 1, 1) := by decide +kernel
theorem dX12_swapOne_90 : decode cX12_swapOne 90 = .ok (.invokevirtual 433, 3) := by decide +kernel
theorem dX12_swapOne_93 : decode cX12_swapOne 93 = .ok (.iload 6, 2) := by decide +kernel
theorem dX12_swapOne_95 : decode cX12_swapOne 95 = .ok (.isub, 1) := by decide +kernel
theorem dX12_swapOne_96 : decode cX12_swapOne 96 = .ok (.iload_n 3, 1) := by decide +kernel
theorem dX12_swapOne_97 : decode cX12_swapOne 97 = .ok (.if_icmp .ge 5, 3) := by decide +kernel
theorem dX12_swapOne_100 : decode cX12_swapOne 100 = .ok (.iconst 1, 1) := by decide +kernel
theorem dX12_swapOne_101 : decode cX12_swapOne 101 = .ok (.ireturn, 1) := by decide +kernel
theorem dX12_swapOne_102 : decode cX12_swapOne 102 = .ok (.aload_n 0, 1) := by decide +kernel
theorem dX12_swapOne_103 : decode cX12_swapOne 103 = .ok (.iload 4, 2) := by decide +kernel
theorem dX12_swapOne_105 : decode cX12_swapOne 105 = .ok (.iload 5, 2) := by decide +kernel
theorem dX12_swapOne_107 : decode cX12_swapOne 107 = .ok (.invokevirtual 440, 3) := by decide +kernel
theorem dX12_swapOne_110 : decode cX12_swapOne 110 = .ok (.iinc 5 1, 3) := by decide +kernel
theorem dX12_swapOne_113 : decode cX12_swapOne 113 = .ok (.goto (-81), 3) := by decide +kernel
theorem dX12_swapOne_116 : decode cX12_swapOne 116 = .ok (.iinc 4 1, 3) := by decide +kernel
theorem dX12_swapOne_119 : decode cX12_swapOne 119 = .ok (.goto (-102), 3) := by decide +kernel
theorem dX12_swapOne_122 : decode cX12_swapOne 122 = .ok (.iconst 0, 1) := by decide +kernel
theorem dX12_swapOne_123 : decode cX12_swapOne 123 = .ok (.ireturn, 1) := by decide +kernel
theorem dX12_moveBack_0 : decode cX12_moveBack 0 = .ok (.aload_n 0, 1) := by decide +kernel
theorem dX12_moveBack_1 : decode cX12_moveBack 1 = .ok (.getfield 57, 3) := by decide +kernel
theorem dX12_moveBack_4 : decode cX12_moveBack 4 = .ok (.aload_n 0, 1) := by decide +kernel
theorem dX12_moveBack_5 : decode cX12_moveBack 5 = .ok (.getfield 81, 3) := by decide +kernel
theorem dX12_moveBack_8 : decode cX12_moveBack 8 = .ok (.iload_n 1, 1) := by decide +kernel
theorem dX12_moveBack_9 : decode cX12_moveBack 9 = .ok (.iaload, 1) := by decide +kernel
theorem dX12_moveBack_10 : decode cX12_moveBack 10 = .ok (.iaload, 1) := by decide +kernel
theorem dX12_moveBack_11 : decode cX12_moveBack 11 = .ok (.aload_n 0, 1) := by decide +kernel
theorem dX12_moveBack_12 : decode cX12_moveBack 12 = .ok (.getfield 57, 3) := by decide +kernel
theorem dX12_moveBack_15 : decode cX12_moveBack 15 = .ok (.aload_n 0, 1) := by decide +kernel
theorem dX12_moveBack_16 : decode cX12_moveBack 16 = .ok (.getfield 81, 3) := by decide +kernel
theorem dX12_moveBack_19 : decode cX12_moveBack 19 = .ok (.iload_n 2, 1) := by decide +kernel
theorem dX12_moveBack_20 : decode cX12_moveBack 20 = .ok (.iaload, 1) := by decide +kernel
theorem dX12_moveBack_21 : decode cX12_moveBack 21 = .ok (.iaload, 1) := by decide +kernel
theorem dX12_moveBack_22 : decode cX12_moveBack 22 = .ok (.isub, 1) := by decide +kernel
theorem dX12_moveBack_23 : decode cX12_moveBack 23 = .ok (.istore_n 3, 1) := by decide +kernel
theorem dX12_moveBack_24 : decode cX12_moveBack 24 = .ok (.aload_n 0, 1) := by decide +kernel
theorem dX12_moveBack_25 : decode cX12_moveBack 25 = .ok (.getfield 93, 3) := by decide +kernel
theorem dX12_moveBack_28 : decode cX12_moveBack 28 = .ok (.aload_n 0, 1) := by decide +kernel
theorem dX12_moveBack_29 : decode cX12_moveBack 29 = .ok (.getfield 84, 3) := by decide +kernel
theorem dX12_moveBack_32 : decode cX12_moveBack 32 = .ok (.iload_n 2, 1) := by decide +kernel
theorem dX12_moveBack_33 : decode cX12_moveBack 33 = .ok (.iaload, 1) := by decide +kernel
theorem dX12_moveBack_34 : decode cX12_moveBack 34 = .ok (.dup2, 1) := by decide +kernel
theorem dX12_moveBack_35 : decode cX12_moveBack 35 = .ok (.iaload, 1) := by decide +kernel
theorem dX12_moveBack_36 : decode cX12_moveBack 36 = .ok (.iload_n 3, 1) := by decide +kernel
theorem dX12_moveBack_37 : decode cX12_moveBack 37 = .ok (.iadd, 1) := by decide +kernel
theorem dX12_moveBack_38 : decode cX12_moveBack 38 = .ok (.iastore, 1) := by decide +kernel
theorem dX12_moveBack_39 : decode cX12_moveBack 39 = .ok (.aload_n 0, 1) := by decide +kernel
theorem dX12_moveBack_40 : decode cX12_moveBack 40 = .ok (.getfield 93, 3) := by decide +kernel
theorem dX12_moveBack_43 : decode cX12_moveBack 43 = .ok (.aload_n 0, 1) := by decide +kernel
theorem dX12_moveBack_44 : decode cX12_moveBack 44 = .ok (.getfield 84, 3) := by decide +kernel
theorem dX12_moveBack_47 : decode cX12_moveBack 47 = .ok (.iload_n 1, 1) := by decide +kernel
theorem dX12_moveBack_48 : decode cX12_moveBack 48 = .ok (.iaload, 1) := by decide +kernel
theorem dX12_moveBack_49 : decode cX12_moveBack 49 = .ok (.dup2, 1) := by decide +kernel
theorem dX12_moveBack_50 : decode cX12_moveBack 50 = .ok (.iaload, 1) := by decide +kernel
theorem dX12_moveBack_51 : decode cX12_moveBack 51 = .ok (.iload_n 3, 1) := by decide +kernel
theorem dX12_moveBack_52 : decode cX12_moveBack 52 = .ok (.isub, 1) := by decide +kernel
theorem dX12_moveBack_53 : decode cX12_moveBack 53 = .ok (.iastore, 1) := by decide +kernel
theorem dX12_moveBack_54 : decode cX12_moveBack 54 = .ok (.aload_n 0, 1) := by decide +kernel
theorem dX12_moveBack_55 : decode cX12_moveBack 55 = .ok (.getfield 84, 3) := by decide +kernel
theorem dX12_moveBack_58 : decode cX12_moveBack 58 = .ok (.iload_n 1, 1) := by decide +kernel
theorem dX12_moveBack_59 : decode cX12_moveBack 59 = .ok (.iaload, 1) := by decide +kernel
theorem dX12_moveBack_60 : decode cX12_moveBack 60 = .ok (.istore 4, 2) := by decide +kernel
theorem dX12_moveBack_62 : decode cX12_moveBack 62 = .ok (.aload_n 0, 1) := by decide +kernel
theorem dX12_moveBack_63 : decode cX12_moveBack 63 = .ok (.getfield 84, 3) := by decide +kernel
theorem dX12_moveBack_66 : decode cX12_moveBack 66 = .ok (.iload_n 1, 1) := by decide +kernel
theorem dX12_moveBack_67 : decode cX12_moveBack 67 = .ok (.aload_n 0, 1) := by decide +kernel
theorem dX12_moveBack_68 : decode cX12_moveBack 68 = .ok (.getfield 84, 3) := by decide +kernel
theorem dX12_moveBack_71 : decode cX12_moveBack 71 = .ok (.iload_n 2, 1) := by decide +kernel
theorem dX12_moveBack_72 : decode cX12_moveBack 72 = .ok (.iaload, 1) := by decide +kernel
theorem dX12_moveBack_73 : decode cX12_moveBack 73 = .ok (.iastore, 1) := by decide +kernel
theorem dX12_moveBack_74 : decode cX12_moveBack 74 = .ok (.aload_n 0, 1) := by decide +kernel
theorem dX12_moveBack_75 : decode cX12_moveBack 75 = .ok (.getfield 84, 3) := by decide +kernel
theorem dX12_moveBack_78 : decode cX12_moveBack 78 = .ok (.iload_n 2, 1) := by decide +kernel
theorem dX12_moveBack_79 : decode cX12_moveBack 79 = .ok (.iload 4, 2) := by decide +kernel
theorem dX12_moveBack_81 : decode cX12_moveBack 81 = .ok (.iastore, 1) := by decide +kernel
theorem dX12_moveBack_82 : decode cX12_moveBack 82 = .ok (.return_, 1) := by decide +kernel
theorem dX12_sort_0 : decode cX12_sort 0 = .ok (.iconst 0, 1) := by decide +kernel
theorem dX12_sort_1 : decode cX12_sort 1 = .ok (.istore_n 1, 1) := by decide +kernel
theorem dX12_sort_2 : decode cX12_sort 2 = .ok (.iload_n 1, 1) := by decide +kernel
theorem dX12_sort_3 : decode cX12_sort 3 = .ok (.aload_n 0, 1) := by decide +kernel
theorem dX12_sort_4 : decode cX12_sort 4 = .ok (.getfield 397, 3) := by decide +kernel
theorem dX12_sort_7 : decode cX12_sort 7 = .ok (.if_icmp .ge 74, 3) := by decide +kernel
theorem dX12_sort_10 : decode cX12_sort 10 = .ok (.iload_n 1, 1) := by decide +kernel
theorem dX12_sort_11 : decode cX12_sort 11 = .ok (.istore_n 2, 1) := by decide +kernel
theorem dX12_sort_12 : decode cX12_sort 12 = .ok (.iload_n 2, 1) := by decide +kernel
theorem dX12_sort_13 : decode cX12_sort 13 = .ok (.ifCond .le 55, 3) := by decide +kernel
theorem dX12_sort_16 : decode cX12_sort 16 = .ok (.aload_n 0, 1) := by decide +kernel
theorem dX12_sort_17 : decode cX12_sort 17 = .ok (.getfield 57, 3) := by decide +kernel
theorem dX12_sort_20 : decode cX12_sort 20 = .ok (.aload_n 0, 1) := by decide +kernel
theorem dX12_sort_21 : decode cX12_sort 21 = .ok (.getfield 81, 3) := by decide +kernel
theorem dX12_sort_24 : decode cX12_sort 24 = .ok (.aload_n 0, 1) := by decide +kernel
theorem dX12_sort_25 : decode cX12_sort 25 = .ok (.getfield 108, 3) := by decide +kernel
theorem dX12_sort_28 : decode cX12_sort 28 = .ok (.iload_n 2, 1) := by decide +kernel
theorem dX12_sort_29 : decode cX12_sort 29 = .ok (.iconst 1, 1) := by decide +kernel
theorem dX12_sort_30 : decode cX12_sort 30 = .ok (.isub, 1) := by decide +kernel
theorem dX12_sort_31 : decode cX12_sort 31 = .ok (.iaload, 1) := by decide +kernel
theorem dX12_sort_32 : decode cX12_sort 32 = .ok (.iaload, 1) := by decide +kernel
theorem dX12_sort_33 : decode cX12_sort 33 = .ok (.iaload, 1) := by decide +kernel
theorem dX12_sort_34 : decode cX12_sort 34 = .ok (.aload_n 0, 1) := by decide +kernel
theorem dX12_sort_35 : decode cX12_sort 35 = .ok (.getfield 57, 3) := by decide +kernel
theorem dX12_sort_38 : decode cX12_sort 38 = .ok (.aload_n 0, 1) := by decide +kernel
theorem dX12_sort_39 : decode cX12_sort 39 = .ok (.getfield 81, 3) := by decide +kernel
theorem dX12_sort_42 : decode cX12_sort 42 = .ok (.iload_n 1, 1) := by decide +kernel
theorem dX12_sort_43 : decode cX12_sort 43 = .ok (.iaload, 1) := by decide +kernel
theorem dX12_sort_44 : decode cX12_sort 44 = .ok (.iaload, 1) := by decide +kernel
theorem dX12_sort_45 : decode cX12_sort 45 = .ok (.if_icmp .ge 23, 3) := by decide +kernel
theorem dX12_sort_48 : decode cX12_sort 48 = .ok (.aload_n 0, 1) := by decide +kernel
theorem dX12_sort_49 : decode cX12_sort 49 = .ok (.getfield 108, 3) := by decide +kernel
theorem dX12_sort_52 : decode cX12_sort 52 = .ok (.iload_n 2, 1) := by decide +kernel
theorem dX12_sort_53 : decode cX12_sort 53 = .ok (.aload_n 0, 1) := by decide +kernel
theorem dX12_sort_54 : decode cX12_sort 54 = .ok (.getfield 108, 3) := by decide +kernel
theorem dX12_sort_57 : decode cX12_sort 57 = .ok (.iload_n 2, 1) := by decide +kernel
theorem dX12_sort_58 : decode cX12_sort 58 = .ok (.iconst 1, 1) := by decide +kernel
theorem dX12_sort_59 : decode cX12_sort 59 = .ok (.isub, 1) := by decide +kernel
theorem dX12_sort_60 : decode cX12_sort 60 = .ok (.iaload, 1) := by decide +kernel
theorem dX12_sort_61 : decode cX12_sort 61 = .ok (.iastore, 1) := by decide +kernel
theorem dX12_sort_62 : decode cX12_sort 62 = .ok (.iinc 2 (-1), 3) := by decide +kernel
theorem dX12_sort_65 : decode cX12_sort 65 = .ok (.goto (-53), 3) := by decide +kernel
theorem dX12_sort_68 : decode cX12_sort 68 = .ok (.aload_n 0, 1) := by decide +kernel
theorem dX12_sort_69 : decode cX12_sort 69 = .ok (.getfield 108, 3) := by decide +kernel
theorem dX12_sort_72 : decode cX12_sort 72 = .ok (.iload_n 2, 1) := by decide +kernel
theorem dX12_sort_73 : decode cX12_sort 73 = .ok (.iload_n 1, 1) := by decide +kernel
theorem dX12_sort_74 : decode cX12_sort 74 = .ok (.iastore, 1) := by decide +kernel
theorem dX12_sort_75 : decode cX12_sort 75 = .ok (.iinc 1 1, 3) := by decide +kernel
theorem dX12_sort_78 : decode cX12_sort 78 = .ok (.goto (-76), 3) := by decide +kernel
theorem dX12_sort_81 : decode cX12_sort 81 = .ok (.return_, 1) := by decide +kernel
theorem dX12_swaps_0 : decode cX12_swaps 0 = .ok (.aload_n 0, 1) := by decide +kernel
theorem dX12_swaps_1 : decode cX12_swaps 1 = .ok (.iconst 0, 1) := by decide +kernel
theorem dX12_swaps_2 : decode cX12_swaps 2 = .ok (.putfield 1, 3) := by decide +kernel
theorem dX12_swaps_5 : decode cX12_swaps 5 = .ok (.aload_n 0, 1) := by decide +kernel
theorem dX12_swaps_6 : decode cX12_swaps 6 = .ok (.sipush 540, 3) := by decide +kernel
theorem dX12_swaps_9 : decode cX12_swaps 9 = .ok (.invokevirtual 292, 3) := by decide +kernel
theorem dX12_swaps_12 : decode cX12_swaps 12 = .ok (.aload_n 0, 1) := by decide +kernel
theorem dX12_swaps_13 : decode cX12_swaps 13 = .ok (.iconst 2, 1) := by decide +kernel
theorem dX12_swaps_14 : decode cX12_swaps 14 = .ok (.bipush 40, 2) := by decide +kernel
theorem dX12_swaps_16 : decode cX12_swaps 16 = .ok (.invokevirtual 412, 3) := by decide +kernel
theorem dX12_swaps_19 : decode cX12_swaps 19 = .ok (.ifCond .eq 25, 3) := by decide +kernel
theorem dX12_swaps_22 : decode cX12_swaps 22 = .ok (.iload_n 1, 1) := by decide +kernel
theorem dX12_swaps_23 : decode cX12_swaps 23 = .ok (.iconst 1, 1) := by decide +kernel
theorem dX12_swaps_24 : decode cX12_swaps 24 = .ok (.if_icmp .lt 20, 3) := by decide +kernel
theorem dX12_swaps_27 : decode cX12_swaps 27 = .ok (.iload_n 1, 1) := by decide +kernel
theorem dX12_swaps_28 : decode cX12_swaps 28 = .ok (.aload_n 0, 1) := by decide +kernel
theorem dX12_swaps_29 : decode cX12_swaps 29 = .ok (.getfield 397, 3) := by decide +kernel
theorem dX12_swaps_32 : decode cX12_swaps 32 = .ok (.if_icmp .gt 12, 3) := by decide +kernel
theorem dX12_swaps_35 : decode cX12_swaps 35 = .ok (.aload_n 0, 1) := by decide +kernel
theorem dX12_swaps_36 : decode cX12_swaps 36 = .ok (.getfield 397, 3) := by decide +kernel
theorem dX12_swaps_39 : decode cX12_swaps 39 = .ok (.iload_n 1, 1) := by decide +kernel
theorem dX12_swaps_40 : decode cX12_swaps 40 = .ok (.irem, 1) := by decide +kernel
theorem dX12_swaps_41 : decode cX12_swaps 41 = .ok (.ifCond .eq 5, 3) := by decide +kernel
theorem dX12_swaps_44 : decode cX12_swaps 44 = .ok (.iconst (-1), 1) := by decide +kernel
theorem dX12_swaps_45 : decode cX12_swaps 45 = .ok (.ireturn, 1) := by decide +kernel
theorem dX12_swaps_46 : decode cX12_swaps 46 = .ok (.aload_n 0, 1) := by decide +kernel
theorem dX12_swaps_47 : decode cX12_swaps 47 = .ok (.invokevirtual 443, 3) := by decide +kernel
theorem dX12_swaps_50 : decode cX12_swaps 50 = .ok (.iconst 0, 1) := by decide +kernel
theorem dX12_swaps_51 : decode cX12_swaps 51 = .ok (.istore_n 2, 1) := by decide +kernel
theorem dX12_swaps_52 : decode cX12_swaps 52 = .ok (.iload_n 2, 1) := by decide +kernel
theorem dX12_swaps_53 : decode cX12_swaps 53 = .ok (.iload_n 1, 1) := by decide +kernel
theorem dX12_swaps_54 : decode cX12_swaps 54 = .ok (.if_icmp .ge 16, 3) := by decide +kernel
theorem dX12_swaps_57 : decode cX12_swaps 57 = .ok (.aload_n 0, 1) := by decide +kernel
theorem dX12_swaps_58 : decode cX12_swaps 58 = .ok (.getfield 93, 3) := by decide +kernel
theorem dX12_swaps_61 : decode cX12_swaps 61 = .ok (.iload_n 2, 1) := by decide +kernel
theorem dX12_swaps_62 : decode cX12_swaps 62 = .ok (.iconst 0, 1) := by decide +kernel
theorem dX12_swaps_63 : decode cX12_swaps 63 = .ok (.iastore, 1) := by decide +kernel
theorem dX12_swaps_64 : decode cX12_swaps 64 = .ok (.iinc 2 1, 3) := by decide +kernel
theorem dX12_swaps_67 : decode cX12_swaps 67 = .ok (.goto (-15), 3) := by decide +kernel
theorem dX12_swaps_70 : decode cX12_swaps 70 = .ok (.iconst 0, 1) := by decide +kernel
theorem dX12_swaps_71 : decode cX12_swaps 71 = .ok (.istore_n 2, 1) := by decide +kernel
theorem dX12_swaps_72 : decode cX12_swaps 72 = .ok (.iconst 0, 1) := by decide +kernel
theorem dX12_swaps_73 : decode cX12_swaps 73 = .ok (.istore_n 3, 1) := by decide +kernel
theorem dX12_swaps_74 : decode cX12_swaps 74 = .ok (.iload_n 3, 1) := by decide +kernel
theorem dX12_swaps_75 : decode cX12_swaps 75 = .ok (.aload_n 0, 1) := by decide +kernel
theorem dX12_swaps_76 : decode cX12_swaps 76 = .ok (.getfield 397, 3) := by decide +kernel
theorem dX12_swaps_79 : decode cX12_swaps 79 = .ok (.if_icmp .ge 90, 3) := by decide +kernel
theorem dX12_swaps_82 : decode cX12_swaps 82 = .ok (.iload_n 3, 1) := by decide +kernel
theorem dX12_swaps_83 : decode cX12_swaps 83 = .ok (.iload_n 1, 1) := by decide +kernel
theorem dX12_swaps_84 : decode cX12_swaps 84 = .ok (.idiv, 1) := by decide +kernel
theorem dX12_swaps_85 : decode cX12_swaps 85 = .ok (.iconst 2, 1) := by decide +kernel
theorem dX12_swaps_86 : decode cX12_swaps 86 = .ok (.irem, 1) := by decide +kernel
theorem dX12_swaps_87 : decode cX12_swaps 87 = .ok (.ifCond .ne 9, 3) := by decide +kernel
theorem dX12_swaps_90 : decode cX12_swaps 90 = .ok (.iload_n 3, 1) := by decide +kernel
theorem dX12_swaps_91 : decode cX12_swaps 91 = .ok (.iload_n 1, 1) := by decide +kernel
theorem dX12_swaps_92 : decode cX12_swaps 92 = .ok (.irem, 1) := by decide +kernel
theorem dX12_swaps_93 : decode cX12_swaps 93 = .ok (.goto 10, 3) := by decide +kernel
theorem dX12_swaps_96 : decode cX12_swaps 96 = .ok (.iload_n 1, 1) := by decide +kernel
theorem dX12_swaps_97 : decode cX12_swaps 97 = .ok (.iconst 1, 1) := by decide +kernel
theorem dX12_swaps_98 : decode cX12_swaps 98 = .ok (.isub, 1) := by decide +kernel
theorem dX12_swaps_99 : decode cX12_swaps 99 = .ok (.iload_n 3, 1) := by decide +kernel
theorem dX12_swaps_100 : decode cX12_swaps 100 = .ok (.iload_n 1, 1) := by decide +kernel
theorem dX12_swaps_101 : decode cX12_swaps 101 = .ok (.irem, 1) := by decide +kernel
theorem dX12_swaps_102 : decode cX12_swaps 102 = .ok (.isub, 1) := by decide +kernel
theorem dX12_swaps_103 : decode cX12_swaps 103 = .ok (.istore 4, 2) := by decide +kernel
theorem dX12_swaps_105 : decode cX12_swaps 105 = .ok (.aload_n 0, 1) := by decide +kernel
theorem dX12_swaps_106 : decode cX12_swaps 106 = .ok (.getfield 84, 3) := by decide +kernel
theorem dX12_swaps_109 : decode cX12_swaps 109 = .ok (.aload_n 0, 1) := by decide +kernel
theorem dX12_swaps_110 : decode cX12_swaps 110 = .ok (.getfield 108, 3) := by decide +kernel
theorem dX12_swaps_113 : decode cX12_swaps 113 = .ok (.iload_n 3, 1) := by decide +kernel
theorem dX12_swaps_114 : decode cX12_swaps 114 = .ok (.iaload, 1) := by decide +kernel
theorem dX12_swaps_115 : decode cX12_swaps 115 = .ok (.iload 4, 2) := by decide +kernel
theorem dX12_swaps_117 : decode cX12_swaps 117 = .ok (.iastore, 1) := by decide +kernel
theorem dX12_swaps_118 : decode cX12_swaps 118 = .ok (.aload_n 0, 1) := by decide +kernel
theorem dX12_swaps_119 : decode cX12_swaps 119 = .ok (.getfield 93, 3) := by decide +kernel
theorem dX12_swaps_122 : decode cX12_swaps 122 = .ok (.iload 4, 2) := by decide +kernel
theorem dX12_swaps_124 : decode cX12_swaps 124 = .ok (.dup2, 1) := by decide +kernel
theorem dX12_swaps_125 : decode cX12_swaps 125 = .ok (.iaload, 1) := by decide +kernel
theorem dX12_swaps_126 : decode cX12_swaps 126 = .ok (.aload_n 0, 1) := by decide +kernel
theorem dX12_swaps_127 : decode cX12_swaps 127 = .ok (.getfield 57, 3) := by decide +kernel
theorem dX12_swaps_130 : decode cX12_swaps 130 = .ok (.aload_n 0, 1) := by decide +kernel
theorem dX12_swaps_131 : decode cX12_swaps 131 = .ok (.getfield 81, 3) := by decide +kernel
theorem dX12_swaps_134 : decode cX12_swaps 134 = .ok (.aload_n 0, 1) := by decide +kernel
theorem dX12_swaps_135 : decode cX12_swaps 135 = .ok (.getfield 108, 3) := by decide +kernel
theorem dX12_swaps_138 : decode cX12_swaps 138 = .ok (.iload_n 3, 1) := by decide +kernel
theorem dX12_swaps_139 : decode cX12_swaps 139 = .ok (.iaload, 1) := by decide +kernel
theorem dX12_swaps_140 : decode cX12_swaps 140 = .ok (.iaload, 1) := by decide +kernel
theorem dX12_swaps_141 : decode cX12_swaps 141 = .ok (.iaload, 1) := by decide +kernel
theorem dX12_swaps_142 : decode cX12_swaps 142 = .ok (.iadd, 1) := by decide +kernel
theorem dX12_swaps_143 : decode cX12_swaps 143 = .ok (.iastore, 1) := by decide +kernel
theorem dX12_swaps_144 : decode cX12_swaps 144 = .ok (.iload_n 2, 1) := by decide +kernel
theorem dX12_swaps_145 : decode cX12_swaps 145 = .ok (.aload_n 0, 1) := by decide +kernel
theorem dX12_swaps_146 : decode cX12_swaps 146 = .ok (.getfield 57, 3) := by decide +kernel
theorem dX12_swaps_149 : decode cX12_swaps 149 = .ok (.aload_n 0, 1) := by decide +kernel
theorem dX12_swaps_150 : decode cX12_swaps 150 = .ok (.getfield 81, 3) := by decide +kernel
theorem dX12_swaps_153 : decode cX12_swaps 153 = .ok (.aload_n 0, 1) := by decide +kernel
theorem dX12_swaps_154 : decode cX12_swaps 154 = .ok (.getfield 108, 3) := by decide +kernel
theorem dX12_swaps_157 : decode cX12_swaps 157 = .ok (.iload_n 3, 1) := by decide +kernel
theorem dX12_swaps_158 : decode cX12_swaps 158 = .ok (.iaload, 1) := by decide +kernel
theorem dX12_swaps_159 : decode cX12_swaps 159 = .ok (.iaload, 1) := by decide +kernel
theorem dX12_swaps_160 : decode cX12_swaps 160 = .ok (.iaload, 1) := by decide +kernel
theorem dX12_swaps_161 : decode cX12_swaps 161 = .ok (.iadd, 1) := by decide +kernel
theorem dX12_swaps_162 : decode cX12_swaps 162 = .ok (.istore_n 2, 1) := by decide +kernel
theorem dX12_swaps_163 : decode cX12_swaps 163 = .ok (.iinc 3 1, 3) := by decide +kernel
theorem dX12_swaps_166 : decode cX12_swaps 166 = .ok (.goto (-92), 3) := by decide +kernel
theorem dX12_swaps_169 : decode cX12_swaps 169 = .ok (.aload_n 0, 1) := by decide +kernel
theorem dX12_swaps_170 : decode cX12_swaps 170 = .ok (.iconst 0, 1) := by decide +kernel
theorem dX12_swaps_171 : decode cX12_swaps 171 = .ok (.putfield 446, 3) := by decide +kernel
theorem dX12_swaps_174 : decode cX12_swaps 174 = .ok (.aload_n 0, 1) := by decide +kernel
theorem dX12_swaps_175 : decode cX12_swaps 175 = .ok (.getfield 446, 3) := by decide +kernel
theorem dX12_swaps_178 : decode cX12_swaps 178 = .ok (.sipush 500, 3) := by decide +kernel
theorem dX12_swaps_181 : decode cX12_swaps 181 = .ok (.if_icmp .ge 24, 3) := by decide +kernel
theorem dX12_swaps_184 : decode cX12_swaps 184 = .ok (.aload_n 0, 1) := by decide +kernel
theorem dX12_swaps_185 : decode cX12_swaps 185 = .ok (.iload_n 1, 1) := by decide +kernel
theorem dX12_swaps_186 : decode cX12_swaps 186 = .ok (.invokevirtual 449, 3) := by decide +kernel
theorem dX12_swaps_189 : decode cX12_swaps 189 = .ok (.ifCond .eq 16, 3) := by decide +kernel
theorem dX12_swaps_192 : decode cX12_swaps 192 = .ok (.aload_n 0, 1) := by decide +kernel
theorem dX12_swaps_193 : decode cX12_swaps 193 = .ok (.dup, 1) := by decide +kernel
theorem dX12_swaps_194 : decode cX12_swaps 194 = .ok (.getfield 446, 3) := by decide +kernel
theorem dX12_swaps_197 : decode cX12_swaps 197 = .ok (.iconst 1, 1) := by decide +kernel
theorem dX12_swaps_198 : decode cX12_swaps 198 = .ok (.iadd, 1) := by decide +kernel
theorem dX12_swaps_199 : decode cX12_swaps 199 = .ok (.putfield 446, 3) := by decide +kernel
theorem dX12_swaps_202 : decode cX12_swaps 202 = .ok (.goto (-28), 3) := by decide +kernel
theorem dX12_swaps_205 : decode cX12_swaps 205 = .ok (.aload_n 0, 1) := by decide +kernel
theorem dX12_swaps_206 : decode cX12_swaps 206 = .ok (.aload_n 0, 1) := by decide +kernel
theorem dX12_swaps_207 : decode cX12_swaps 207 = .ok (.getfield 397, 3) := by decide +kernel
theorem dX12_swaps_210 : decode cX12_swaps 210 = .ok (.putfield 452, 3) := by decide +kernel
theorem dX12_swaps_213 : decode cX12_swaps 213 = .ok (.iconst 0, 1) := by decide +kernel
theorem dX12_swaps_214 : decode cX12_swaps 214 = .ok (.istore_n 3, 1) := by decide +kernel
theorem dX12_swaps_215 : decode cX12_swaps 215 = .ok (.iload_n 3, 1) := by decide +kernel
theorem dX12_swaps_216 : decode cX12_swaps 216 = .ok (.aload_n 0, 1) := by decide +kernel
theorem dX12_swaps_217 : decode cX12_swaps 217 = .ok (.getfield 397, 3) := by decide +kernel
theorem dX12_swaps_220 : decode cX12_swaps 220 = .ok (.if_icmp .ge 21, 3) := by decide +kernel
theorem dX12_swaps_223 : decode cX12_swaps 223 = .ok (.aload_n 0, 1) := by decide +kernel
theorem dX12_swaps_224 : decode cX12_swaps 224 = .ok (.getfield 105, 3) := by decide +kernel
theorem dX12_swaps_227 : decode cX12_swaps 227 = .ok (.iload_n 3, 1) := by decide +kernel
theorem dX12_swaps_228 : decode cX12_swaps 228 = .ok (.aload_n 0, 1) := by decide +kernel
theorem dX12_swaps_229 : decode cX12_swaps 229 = .ok (.getfield 84, 3) := by decide +kernel
theorem dX12_swaps_232 : decode cX12_swaps 232 = .ok (.iload_n 3, 1) := by decide +kernel
theorem dX12_swaps_233 : decode cX12_swaps 233 = .ok (.iaload, 1) := by decide +kernel
theorem dX12_swaps_234 : decode cX12_swaps 234 = .ok (.iastore, 1) := by decide +kernel
theorem dX12_swaps_235 : decode cX12_swaps 235 = .ok (.iinc 3 1, 3) := by decide +kernel
theorem dX12_swaps_238 : decode cX12_swaps 238 = .ok (.goto (-23), 3) := by decide +kernel
theorem dX12_swaps_241 : decode cX12_swaps 241 = .ok (.aload_n 0, 1) := by decide +kernel
theorem dX12_swaps_242 : decode cX12_swaps 242 = .ok (.iload_n 2, 1) := by decide +kernel
theorem dX12_swaps_243 : decode cX12_swaps 243 = .ok (.iload_n 1, 1) := by decide +kernel
theorem dX12_swaps_244 : decode cX12_swaps 244 = .ok (.idiv, 1) := by decide +kernel
theorem dX12_swaps_245 : decode cX12_swaps 245 = .ok (.putfield 455, 3) := by decide +kernel
theorem dX12_swaps_248 : decode cX12_swaps 248 = .ok (.aload_n 0, 1) := by decide +kernel
theorem dX12_swaps_249 : decode cX12_swaps 249 = .ok (.aload_n 0, 1) := by decide +kernel
theorem dX12_swaps_250 : decode cX12_swaps 250 = .ok (.iload_n 1, 1) := by decide +kernel
theorem dX12_swaps_251 : decode cX12_swaps 251 = .ok (.invokevirtual 433, 3) := by decide +kernel
theorem dX12_swaps_254 : decode cX12_swaps 254 = .ok (.aload_n 0, 1) := by decide +kernel
theorem dX12_swaps_255 : decode cX12_swaps 255 = .ok (.iload_n 1, 1) := by decide +kernel
theorem dX12_swaps_256 : decode cX12_swaps 256 = .ok (.invokevirtual 430, 3) := by decide +kernel
theorem dX12_swaps_259 : decode cX12_swaps 259 = .ok (.isub, 1) := by decide +kernel
theorem dX12_swaps_260 : decode cX12_swaps 260 = .ok (.putfield 458, 3) := by decide +kernel
theorem dX12_swaps_263 : decode cX12_swaps 263 = .ok (.aload_n 0, 1) := by decide +kernel
theorem dX12_swaps_264 : decode cX12_swaps 264 = .ok (.iload_n 1, 1) := by decide +kernel
theorem dX12_swaps_265 : decode cX12_swaps 265 = .ok (.invokevirtual 430, 3) := by decide +kernel
theorem dX12_swaps_268 : decode cX12_swaps 268 = .ok (.ireturn, 1) := by decide +kernel
theorem dX12_swapAt_0 : decode cX12_swapAt 0 = .ok (.aload_n 0, 1) := by decide +kernel
theorem dX12_swapAt_1 : decode cX12_swapAt 1 = .ok (.iconst 0, 1) := by decide +kernel
theorem dX12_swapAt_2 : decode cX12_swapAt 2 = .ok (.putfield 1, 3) := by decide +kernel
theorem dX12_swapAt_5 : decode cX12_swapAt 5 = .ok (.iload_n 1, 1) := by decide +kernel
theorem dX12_swapAt_6 : decode cX12_swapAt 6 = .ok (.iconst 0, 1) := by decide +kernel
theorem dX12_swapAt_7 : decode cX12_swapAt 7 = .ok (.aload_n 0, 1) := by decide +kernel
theorem dX12_swapAt_8 : decode cX12_swapAt 8 = .ok (.getfield 452, 3) := by decide +kernel
theorem dX12_swapAt_11 : decode cX12_swapAt 11 = .ok (.iconst 1, 1) := by decide +kernel
theorem dX12_swapAt_12 : decode cX12_swapAt 12 = .ok (.isub, 1) := by decide +kernel
theorem dX12_swapAt_13 : decode cX12_swapAt 13 = .ok (.invokestatic 262, 3) := by decide +kernel
theorem dX12_swapAt_16 : decode cX12_swapAt 16 = .ok (.ifCond .eq 12, 3) := by decide +kernel
theorem dX12_swapAt_19 : decode cX12_swapAt 19 = .ok (.aload_n 0, 1) := by decide +kernel
theorem dX12_swapAt_20 : decode cX12_swapAt 20 = .ok (.getfield 105, 3) := by decide +kernel
theorem dX12_swapAt_23 : decode cX12_swapAt 23 = .ok (.iload_n 1, 1) := by decide +kernel
theorem dX12_swapAt_24 : decode cX12_swapAt 24 = .ok (.iaload, 1) := by decide +kernel
theorem dX12_swapAt_25 : decode cX12_swapAt 25 = .ok (.goto 4, 3) := by decide +kernel
theorem dX12_swapAt_28 : decode cX12_swapAt 28 = .ok (.iconst (-1), 1) := by decide +kernel
theorem dX12_swapAt_29 : decode cX12_swapAt 29 = .ok (.ireturn, 1) := by decide +kernel
theorem dX12_swapsBy_0 : decode cX12_swapsBy 0 = .ok (.aload_n 0, 1) := by decide +kernel
theorem dX12_swapsBy_1 : decode cX12_swapsBy 1 = .ok (.iconst 0, 1) := by decide +kernel
theorem dX12_swapsBy_2 : decode cX12_swapsBy 2 = .ok (.putfield 1, 3) := by decide +kernel
theorem dX12_swapsBy_5 : decode cX12_swapsBy 5 = .ok (.aload_n 0, 1) := by decide +kernel
theorem dX12_swapsBy_6 : decode cX12_swapsBy 6 = .ok (.getfield 452, 3) := by decide +kernel
theorem dX12_swapsBy_9 : decode cX12_swapsBy 9 = .ok (.ifCond .ne 7, 3) := by decide +kernel
theorem dX12_swapsBy_12 : decode cX12_swapsBy 12 = .ok (.iconst (-1), 1) := by decide +kernel
theorem dX12_swapsBy_13 : decode cX12_swapsBy 13 = .ok (.goto 39, 3) := by decide +kernel
theorem dX12_swapsBy_16 : decode cX12_swapsBy 16 = .ok (.iload_n 1, 1) := by decide +kernel
theorem dX12_swapsBy_17 : decode cX12_swapsBy 17 = .ok (.ifCond .ne 10, 3) := by decide +kernel
theorem dX12_swapsBy_20 : decode cX12_swapsBy 20 = .ok (.aload_n 0, 1) := by decide +kernel
theorem dX12_swapsBy_21 : decode cX12_swapsBy 21 = .ok (.getfield 455, 3) := by decide +kernel
theorem dX12_swapsBy_24 : decode cX12_swapsBy 24 = .ok (.goto 28, 3) := by decide +kernel
theorem dX12_swapsBy_27 : decode cX12_swapsBy 27 = .ok (.iload_n 1, 1) := by decide +kernel
theorem dX12_swapsBy_28 : decode cX12_swapsBy 28 = .ok (.iconst 1, 1) := by decide +kernel
theorem dX12_swapsBy_29 : decode cX12_swapsBy 29 = .ok (.if_icmp .ne 10, 3) := by decide +kernel
theorem dX12_swapsBy_32 : decode cX12_swapsBy 32 = .ok (.aload_n 0, 1) := by decide +kernel
theorem dX12_swapsBy_33 : decode cX12_swapsBy 33 = .ok (.getfield 446, 3) := by decide +kernel
theorem dX12_swapsBy_36 : decode cX12_swapsBy 36 = .ok (.goto 16, 3) := by decide +kernel
theorem dX12_swapsBy_39 : decode cX12_swapsBy 39 = .ok (.iload_n 1, 1) := by decide +kernel
theorem dX12_swapsBy_40 : decode cX12_swapsBy 40 = .ok (.iconst 2, 1) := by decide +kernel
theorem dX12_swapsBy_41 : decode cX12_swapsBy 41 = .ok (.if_icmp .ne 10, 3) := by decide +kernel
theorem dX12_swapsBy_44 : decode cX12_swapsBy 44 = .ok (.aload_n 0, 1) := by decide +kernel
theorem dX12_swapsBy_45 : decode cX12_swapsBy 45 = .ok (.getfield 458, 3) := by decide +kernel
theorem dX12_swapsBy_48 : decode cX12_swapsBy 48 = .ok (.goto 4, 3) := by decide +kernel
theorem dX12_swapsBy_51 : decode cX12_swapsBy 51 = .ok (.iconst (-1), 1) := by decide +kernel
theorem dX12_swapsBy_52 : decode cX12_swapsBy 52 = .ok (.ireturn, 1) := by decide +kernel
theorem dX12_most_0 : decode cX12_most 0 = .ok (.aload_n 0, 1) := by decide +kernel
theorem dX12_most_1 : decode cX12_most 1 = .ok (.iconst 0, 1) := by decide +kernel
theorem dX12_most_2 : decode cX12_most 2 = .ok (.putfield 1, 3) := by decide +kernel
theorem dX12_most_5 : decode cX12_most 5 = .ok (.aload_n 0, 1) := by decide +kernel
theorem dX12_most_6 : decode cX12_most 6 = .ok (.sipush 540, 3) := by decide +kernel
theorem dX12_most_9 : decode cX12_most 9 = .ok (.invokevirtual 292, 3) := by decide +kernel
theorem dX12_most_12 : decode cX12_most 12 = .ok (.aload_n 0, 1) := by decide +kernel
theorem dX12_most_13 : decode cX12_most 13 = .ok (.iconst 1, 1) := by decide +kernel
theorem dX12_most_14 : decode cX12_most 14 = .ok (.bipush 60, 2) := by decide +kernel
theorem dX12_most_16 : decode cX12_most 16 = .ok (.invokevirtual 412, 3) := by decide +kernel
theorem dX12_most_19 : decode cX12_most 19 = .ok (.ifCond .eq 33, 3) := by decide +kernel
theorem dX12_most_22 : decode cX12_most 22 = .ok (.iload_n 1, 1) := by decide +kernel
theorem dX12_most_23 : decode cX12_most 23 = .ok (.iconst 1, 1) := by decide +kernel
theorem dX12_most_24 : decode cX12_most 24 = .ok (.bipush 20, 2) := by decide +kernel
theorem dX12_most_26 : decode cX12_most 26 = .ok (.invokestatic 262, 3) := by decide +kernel
theorem dX12_most_29 : decode cX12_most 29 = .ok (.ifCond .eq 23, 3) := by decide +kernel
theorem dX12_most_32 : decode cX12_most 32 = .ok (.iload_n 2, 1) := by decide +kernel
theorem dX12_most_33 : decode cX12_most 33 = .ok (.iconst 1, 1) := by decide +kernel
theorem dX12_most_34 : decode cX12_most 34 = .ok (.iconst 2, 1) := by decide +kernel
theorem dX12_most_35 : decode cX12_most 35 = .ok (.invokestatic 262, 3) := by decide +kernel
theorem dX12_most_38 : decode cX12_most 38 = .ok (.ifCond .eq 14, 3) := by decide +kernel
theorem dX12_most_41 : decode cX12_most 41 = .ok (.iload_n 3, 1) := by decide +kernel
theorem dX12_most_42 : decode cX12_most 42 = .ok (.iconst 1, 1) := by decide +kernel
theorem dX12_most_43 : decode cX12_most 43 = .ok (.sipush 800, 3) := by decide +kernel
theorem dX12_most_46 : decode cX12_most 46 = .ok (.invokestatic 262, 3) := by decide +kernel
theorem dX12_most_49 : decode cX12_most 49 = .ok (.ifCond .ne 5, 3) := by decide +kernel
theorem dX12_most_52 : decode cX12_most 52 = .ok (.iconst (-1), 1) := by decide +kernel
theorem dX12_most_53 : decode cX12_most 53 = .ok (.ireturn, 1) := by decide +kernel
theorem dX12_most_54 : decode cX12_most 54 = .ok (.aload_n 0, 1) := by decide +kernel
theorem dX12_most_55 : decode cX12_most 55 = .ok (.invokevirtual 443, 3) := by decide +kernel
theorem dX12_most_58 : decode cX12_most 58 = .ok (.iconst 0, 1) := by decide +kernel
theorem dX12_most_59 : decode cX12_most 59 = .ok (.istore 4, 2) := by decide +kernel
theorem dX12_most_61 : decode cX12_most 61 = .ok (.iconst 0, 1) := by decide +kernel
theorem dX12_most_62 : decode cX12_most 62 = .ok (.istore 5, 2) := by decide +kernel
theorem dX12_most_64 : decode cX12_most 64 = .ok (.aload_n 0, 1) := by decide +kernel
theorem dX12_most_65 : decode cX12_most 65 = .ok (.getfield 397, 3) := by decide +kernel
theorem dX12_most_68 : decode cX12_most 68 = .ok (.iconst 1, 1) := by decide +kernel
theorem dX12_most_69 : decode cX12_most 69 = .ok (.isub, 1) := by decide +kernel
theorem dX12_most_70 : decode cX12_most 70 = .ok (.istore 6, 2) := by decide +kernel
theorem dX12_most_72 : decode cX12_most 72 = .ok (.iload_n 2, 1) := by decide +kernel
theorem dX12_most_73 : decode cX12_most 73 = .ok (.iconst 1, 1) := by decide +kernel
theorem dX12_most_74 : decode cX12_most 74 = .ok (.if_icmp .ne 13, 3) := by decide +kernel
theorem dX12_most_77 : decode cX12_most 77 = .ok (.iload 5, 2) := by decide +kernel
theorem dX12_most_79 : decode cX12_most 79 = .ok (.iload 6, 2) := by decide +kernel
theorem dX12_most_81 : decode cX12_most 81 = .ok (.if_icmp .gt 125, 3) := by decide +kernel
theorem dX12_most_84 : decode cX12_most 84 = .ok (.goto 10, 3) := by decide +kernel
theorem dX12_most_87 : decode cX12_most 87 = .ok (.iload 5, 2) := by decide +kernel
theorem dX12_most_89 : decode cX12_most 89 = .ok (.iload 6, 2) := by decide +kernel
theorem dX12_most_91 : decode cX12_most 91 = .ok (.if_icmp .ge 115, 3) := by decide +kernel
theorem dX12_most_94 : decode cX12_most 94 = .ok (.aload_n 0, 1) := by decide +kernel
theorem dX12_most_95 : decode cX12_most 95 = .ok (.getfield 57, 3) := by decide +kernel
theorem dX12_most_98 : decode cX12_most 98 = .ok (.aload_n 0, 1) := by decide +kernel
theorem dX12_most_99 : decode cX12_most 99 = .ok (.getfield 81, 3) := by decide +kernel
theorem dX12_most_102 : decode cX12_most 102 = .ok (.aload_n 0, 1) := by decide +kernel
theorem dX12_most_103 : decode cX12_most 103 = .ok (.getfield 108, 3) := by decide +kernel
theorem dX12_most_106 : decode cX12_most 106 = .ok (.iload 5, 2) := by decide +kernel
theorem dX12_most_108 : decode cX12_most 108 = .ok (.iaload, 1) := by decide +kernel
theorem dX12_most_109 : decode cX12_most 109 = .ok (.iaload, 1) := by decide +kernel
theorem dX12_most_110 : decode cX12_most 110 = .ok (.iaload, 1) := by decide +kernel
theorem dX12_most_111 : decode cX12_most 111 = .ok (.iload_n 2, 1) := by decide +kernel
theorem dX12_most_112 : decode cX12_most 112 = .ok (.iconst 1, 1) := by decide +kernel
theorem dX12_most_113 : decode cX12_most 113 = .ok (.if_icmp .ne 7, 3) := by decide +kernel
theorem dX12_most_116 : decode cX12_most 116 = .ok (.iconst 0, 1) := by decide +kernel
theorem dX12_most_117 : decode cX12_most 117 = .ok (.goto 20, 3) := by decide +kernel
theorem dX12_most_120 : decode cX12_most 120 = .ok (.aload_n 0, 1) := by decide +kernel
theorem dX12_most_121 : decode cX12_most 121 = .ok (.getfield 57, 3) := by decide +kernel
theorem dX12_most_124 : decode cX12_most 124 = .ok (.aload_n 0, 1) := by decide +kernel
theorem dX12_most_125 : decode cX12_most 125 = .ok (.getfield 81, 3) := by decide +kernel
theorem dX12_most_128 : decode cX12_most 128 = .ok (.aload_n 0, 1) := by decide +kernel
theorem dX12_most_129 : decode cX12_most 129 = .ok (.getfield 108, 3) := by decide +kernel
theorem dX12_most_132 : decode cX12_most 132 = .ok (.iload 6, 2) := by decide +kernel
theorem dX12_most_134 : decode cX12_most 134 = .ok (.iaload, 1) := by decide +kernel
theorem dX12_most_135 : decode cX12_most 135 = .ok (.iaload, 1) := by decide +kernel
theorem dX12_most_136 : decode cX12_most 136 = .ok (.iaload, 1) := by decide +kernel
theorem dX12_most_137 : decode cX12_most 137 = .ok (.iadd, 1) := by decide +kernel
theorem dX12_most_138 : decode cX12_most 138 = .ok (.istore 7, 2) := by decide +kernel
theorem dX12_most_140 : decode cX12_most 140 = .ok (.iload 7, 2) := by decide +kernel
theorem dX12_most_142 : decode cX12_most 142 = .ok (.iload_n 3, 1) := by decide +kernel
theorem dX12_most_143 : decode cX12_most 143 = .ok (.if_icmp .lt 7, 3) := by decide +kernel
theorem dX12_most_146 : decode cX12_most 146 = .ok (.iconst 1, 1) := by decide +kernel
theorem dX12_most_147 : decode cX12_most 147 = .ok (.goto 4, 3) := by decide +kernel
theorem dX12_most_150 : decode cX12_most 150 = .ok (.iconst 0, 1) := by decide +kernel
theorem dX12_most_151 : decode cX12_most 151 = .ok (.istore 8, 2) := by decide +kernel
theorem dX12_most_153 : decode cX12_most 153 = .ok (.iload 4, 2) := by decide +kernel
theorem dX12_most_155 : decode cX12_most 155 = .ok (.iload 8, 2) := by decide +kernel
theorem dX12_most_157 : decode cX12_most 157 = .ok (.ifCond .eq 7, 3) := by decide +kernel
theorem dX12_most_160 : decode cX12_most 160 = .ok (.iconst 1, 1) := by decide +kernel
theorem dX12_most_161 : decode cX12_most 161 = .ok (.goto 4, 3) := by decide +kernel
theorem dX12_most_164 : decode cX12_most 164 = .ok (.iconst 0, 1) := by decide +kernel
theorem dX12_most_165 : decode cX12_most 165 = .ok (.iadd, 1) := by decide +kernel
theorem dX12_most_166 : decode cX12_most 166 = .ok (.istore 4, 2) := by decide +kernel
theorem dX12_most_168 : decode cX12_most 168 = .ok (.iload 5, 2) := by decide +kernel
theorem dX12_most_170 : decode cX12_most 170 = .ok (.iload 8, 2) := by decide +kernel
theorem dX12_most_172 : decode cX12_most 172 = .ok (.ifCond .eq 7, 3) := by decide +kernel
theorem dX12_most_175 : decode cX12_most 175 = .ok (.iconst 1, 1) := by decide +kernel
theorem dX12_most_176 : decode cX12_most 176 = .ok (.goto 4, 3) := by decide +kernel
theorem dX12_most_179 : decode cX12_most 179 = .ok (.iconst 0, 1) := by decide +kernel
theorem dX12_most_180 : decode cX12_most 180 = .ok (.iadd, 1) := by decide +kernel
theorem dX12_most_181 : decode cX12_most 181 = .ok (.istore 5, 2) := by decide +kernel
theorem dX12_most_183 : decode cX12_most 183 = .ok (.iload 6, 2) := by decide +kernel
theorem dX12_most_185 : decode cX12_most 185 = .ok (.iload_n 2, 1) := by decide +kernel
theorem dX12_most_186 : decode cX12_most 186 = .ok (.iconst 2, 1) := by decide +kernel
theorem dX12_most_187 : decode cX12_most 187 = .ok (.if_icmp .eq 8, 3) := by decide +kernel
theorem dX12_most_190 : decode cX12_most 190 = .ok (.iload 8, 2) := by decide +kernel
theorem dX12_most_192 : decode cX12_most 192 = .ok (.ifCond .ne 7, 3) := by decide +kernel
theorem dX12_most_195 : decode cX12_most 195 = .ok (.iconst 1, 1) := by decide +kernel
theorem dX12_most_196 : decode cX12_most 196 = .ok (.goto 4, 3) := by decide +kernel
theorem dX12_most_199 : decode cX12_most 199 = .ok (.iconst 0, 1) := by decide +kernel
theorem dX12_most_200 : decode cX12_most 200 = .ok (.isub, 1) := by decide +kernel
theorem dX12_most_201 : decode cX12_most 201 = .ok (.istore 6, 2) := by decide +kernel
theorem dX12_most_203 : decode cX12_most 203 = .ok (.goto (-131), 3) := by decide +kernel
theorem dX12_most_206 : decode cX12_most 206 = .ok (.iload 4, 2) := by decide +kernel
theorem dX12_most_208 : decode cX12_most 208 = .ok (.iload_n 1, 1) := by decide +kernel
theorem dX12_most_209 : decode cX12_most 209 = .ok (.idiv, 1) := by decide +kernel
theorem dX12_most_210 : decode cX12_most 210 = .ok (.ireturn, 1) := by decide +kernel
theorem dX12_share_0 : decode cX12_share 0 = .ok (.aload_n 0, 1) := by decide +kernel
theorem dX12_share_1 : decode cX12_share 1 = .ok (.iconst 0, 1) := by decide +kernel
theorem dX12_share_2 : decode cX12_share 2 = .ok (.putfield 1, 3) := by decide +kernel
theorem dX12_share_5 : decode cX12_share 5 = .ok (.aload_n 0, 1) := by decide +kernel
theorem dX12_share_6 : decode cX12_share 6 = .ok (.sipush 540, 3) := by decide +kernel
theorem dX12_share_9 : decode cX12_share 9 = .ok (.invokevirtual 292, 3) := by decide +kernel
theorem dX12_share_12 : decode cX12_share 12 = .ok (.iload_n 1, 1) := by decide +kernel
theorem dX12_share_13 : decode cX12_share 13 = .ok (.iconst 1, 1) := by decide +kernel
theorem dX12_share_14 : decode cX12_share 14 = .ok (.iconst 4, 1) := by decide +kernel
theorem dX12_share_15 : decode cX12_share 15 = .ok (.invokestatic 262, 3) := by decide +kernel
theorem dX12_share_18 : decode cX12_share 18 = .ok (.ifCond .eq 16, 3) := by decide +kernel
theorem dX12_share_21 : decode cX12_share 21 = .ok (.aload_n 0, 1) := by decide +kernel
theorem dX12_share_22 : decode cX12_share 22 = .ok (.getfield 18, 3) := by decide +kernel
theorem dX12_share_25 : decode cX12_share 25 = .ok (.iconst 1, 1) := by decide +kernel
theorem dX12_share_26 : decode cX12_share 26 = .ok (.bipush 9, 2) := by decide +kernel
theorem dX12_share_28 : decode cX12_share 28 = .ok (.invokestatic 262, 3) := by decide +kernel
theorem dX12_share_31 : decode cX12_share 31 = .ok (.ifCond .ne 5, 3) := by decide +kernel
theorem dX12_share_34 : decode cX12_share 34 = .ok (.iconst (-1), 1) := by decide +kernel
theorem dX12_share_35 : decode cX12_share 35 = .ok (.ireturn, 1) := by decide +kernel
theorem dX12_share_36 : decode cX12_share 36 = .ok (.iconst 0, 1) := by decide +kernel
theorem dX12_share_37 : decode cX12_share 37 = .ok (.istore_n 2, 1) := by decide +kernel
theorem dX12_share_38 : decode cX12_share 38 = .ok (.iload_n 2, 1) := by decide +kernel
theorem dX12_share_39 : decode cX12_share 39 = .ok (.aload_n 0, 1) := by decide +kernel
theorem dX12_share_40 : decode cX12_share 40 = .ok (.getfield 18, 3) := by decide +kernel
theorem dX12_share_43 : decode cX12_share 43 = .ok (.if_icmp .ge 25, 3) := by decide +kernel
theorem dX12_share_46 : decode cX12_share 46 = .ok (.aload_n 0, 1) := by decide +kernel
theorem dX12_share_47 : decode cX12_share 47 = .ok (.iload_n 2, 1) := by decide +kernel
theorem dX12_share_48 : decode cX12_share 48 = .ok (.invokevirtual 400, 3) := by decide +kernel
theorem dX12_share_51 : decode cX12_share 51 = .ok (.iconst 1, 1) := by decide +kernel
theorem dX12_share_52 : decode cX12_share 52 = .ok (.bipush 99, 2) := by decide +kernel
theorem dX12_share_54 : decode cX12_share 54 = .ok (.invokestatic 262, 3) := by decide +kernel
theorem dX12_share_57 : decode cX12_share 57 = .ok (.ifCond .ne 5, 3) := by decide +kernel
theorem dX12_share_60 : decode cX12_share 60 = .ok (.iconst (-1), 1) := by decide +kernel
theorem dX12_share_61 : decode cX12_share 61 = .ok (.ireturn, 1) := by decide +kernel
theorem dX12_share_62 : decode cX12_share 62 = .ok (.iinc 2 1, 3) := by decide +kernel
theorem dX12_share_65 : decode cX12_share 65 = .ok (.goto (-27), 3) := by decide +kernel
theorem dX12_share_68 : decode cX12_share 68 = .ok (.ldc_w 327, 3) := by decide +kernel
theorem dX12_share_71 : decode cX12_share 71 = .ok (.istore_n 2, 1) := by decide +kernel
theorem dX12_share_72 : decode cX12_share 72 = .ok (.iconst 1, 1) := by decide +kernel
theorem dX12_share_73 : decode cX12_share 73 = .ok (.istore_n 3, 1) := by decide +kernel
theorem dX12_share_74 : decode cX12_share 74 = .ok (.iconst 0, 1) := by decide +kernel
theorem dX12_share_75 : decode cX12_share 75 = .ok (.istore 4, 2) := by decide +kernel
theorem dX12_share_77 : decode cX12_share 77 = .ok (.iload 4, 2) := by decide +kernel
theorem dX12_share_79 : decode cX12_share 79 = .ok (.aload_n 0, 1) := by decide +kernel
theorem dX12_share_80 : decode cX12_share 80 = .ok (.getfield 18, 3) := by decide +kernel
theorem dX12_share_83 : decode cX12_share 83 = .ok (.if_icmp .ge 13, 3) := by decide +kernel
theorem dX12_share_86 : decode cX12_share 86 = .ok (.iload_n 3, 1) := by decide +kernel
theorem dX12_share_87 : decode cX12_share 87 = .ok (.iload_n 1, 1) := by decide +kernel
theorem dX12_share_88 : decode cX12_share 88 = .ok (.imul, 1) := by decide +kernel
theorem dX12_share_89 : decode cX12_share 89 = .ok (.istore_n 3, 1) := by decide +kernel
theorem dX12_share_90 : decode cX12_share 90 = .ok (.iinc 4 1, 3) := by decide +kernel
theorem dX12_share_93 : decode cX12_share 93 = .ok (.goto (-16), 3) := by decide +kernel
theorem dX12_share_96 : decode cX12_share 96 = .ok (.iconst 0, 1) := by decide +kernel
theorem dX12_share_97 : decode cX12_share 97 = .ok (.istore 4, 2) := by decide +kernel
theorem dX12_share_99 : decode cX12_share 99 = .ok (.iload 4, 2) := by decide +kernel
theorem dX12_share_101 : decode cX12_share 101 = .ok (.iload_n 3, 1) := by decide +kernel
theorem dX12_share_102 : decode cX12_share 102 = .ok (.if_icmp .ge 219, 3) := by decide +kernel
theorem dX12_share_105 : decode cX12_share 105 = .ok (.iload 4, 2) := by decide +kernel
theorem dX12_share_107 : decode cX12_share 107 = .ok (.istore 5, 2) := by decide +kernel
theorem dX12_share_109 : decode cX12_share 109 = .ok (.aload_n 0, 1) := by decide +kernel
theorem dX12_share_110 : decode cX12_share 110 = .ok (.getfield 18, 3) := by decide +kernel
theorem dX12_share_113 : decode cX12_share 113 = .ok (.iconst 1, 1) := by decide +kernel
theorem dX12_share_114 : decode cX12_share 114 = .ok (.isub, 1) := by decide +kernel
theorem dX12_share_115 : decode cX12_share 115 = .ok (.istore 6, 2) := by decide +kernel
theorem dX12_share_117 : decode cX12_share 117 = .ok (.iload 6, 2) := by decide +kernel
theorem dX12_share_119 : decode cX12_share 119 = .ok (.ifCond .lt 26, 3) := by decide +kernel
theorem dX12_share_122 : decode cX12_share 122 = .ok (.aload_n 0, 1) := by decide +kernel
theorem dX12_share_123 : decode cX12_share 123 = .ok (.getfield 84, 3) := by decide +kernel
theorem dX12_share_126 : decode cX12_share 126 = .ok (.iload 6, 2) := by decide +kernel
theorem dX12_share_128 : decode cX12_share 128 = .ok (.iload 5, 2) := by decide +kernel
theorem dX12_share_130 : decode cX12_share 130 = .ok (.iload_n 1, 1) := by decide +kernel
theorem dX12_share_131 : decode cX12_share 131 = .ok (.irem, 1) := by decide +kernel
theorem dX12_share_132 : decode cX12_share 132 = .ok (.iastore, 1) := by decide +kernel
theorem dX12_share_133 : decode cX12_share 133 = .ok (.iload 5, 2) := by decide +kernel
theorem dX12_share_135 : decode cX12_share 135 = .ok (.iload_n 1, 1) := by decide +kernel
theorem dX12_share_136 : decode cX12_share 136 = .ok (.idiv, 1) := by decide +kernel
theorem dX12_share_137 : decode cX12_share 137 = .ok (.istore 5, 2) := by decide +kernel
theorem dX12_share_139 : decode cX12_share 139 = .ok (.iinc 6 (-1), 3) := by decide +kernel
theorem dX12_share_142 : decode cX12_share 142 = .ok (.goto (-25), 3) := by decide +kernel
theorem dX12_share_145 : decode cX12_share 145 = .ok (.iconst 0, 1) := by decide +kernel
theorem dX12_share_146 : decode cX12_share 146 = .ok (.istore 6, 2) := by decide +kernel
theorem dX12_share_148 : decode cX12_share 148 = .ok (.iconst 1, 1) := by decide +kernel
theorem dX12_share_149 : decode cX12_share 149 = .ok (.istore 7, 2) := by decide +kernel
theorem dX12_share_151 : decode cX12_share 151 = .ok (.iconst 0, 1) := by decide +kernel
theorem dX12_share_152 : decode cX12_share 152 = .ok (.istore 8, 2) := by decide +kernel
theorem dX12_share_154 : decode cX12_share 154 = .ok (.iload 8, 2) := by decide +kernel
theorem dX12_share_156 : decode cX12_share 156 = .ok (.iload_n 1, 1) := by decide +kernel
theorem dX12_share_157 : decode cX12_share 157 = .ok (.if_icmp .ge 17, 3) := by decide +kernel
theorem dX12_share_160 : decode cX12_share 160 = .ok (.aload_n 0, 1) := by decide +kernel
theorem dX12_share_161 : decode cX12_share 161 = .ok (.getfield 93, 3) := by decide +kernel
theorem dX12_share_164 : decode cX12_share 164 = .ok (.iload 8, 2) := by decide +kernel
theorem dX12_share_166 : decode cX12_share 166 = .ok (.iconst 0, 1) := by decide +kernel
theorem dX12_share_167 : decode cX12_share 167 = .ok (.iastore, 1) := by decide +kernel
theorem dX12_share_168 : decode cX12_share 168 = .ok (.iinc 8 1, 3) := by decide +kernel
theorem dX12_share_171 : decode cX12_share 171 = .ok (.goto (-17), 3) := by decide +kernel
theorem dX12_share_174 : decode cX12_share 174 = .ok (.iconst 0, 1) := by decide +kernel
theorem dX12_share_175 : decode cX12_share 175 = .ok (.istore 8, 2) := by decide +kernel
theorem dX12_share_177 : decode cX12_share 177 = .ok (.iload 8, 2) := by decide +kernel
theorem dX12_share_179 : decode cX12_share 179 = .ok (.aload_n 0, 1) := by decide +kernel
theorem dX12_share_180 : decode cX12_share 180 = .ok (.getfield 18, 3) := by decide +kernel
theorem dX12_share_183 : decode cX12_share 183 = .ok (.if_icmp .ge 77, 3) := by decide +kernel
theorem dX12_share_186 : decode cX12_share 186 = .ok (.iload 7, 2) := by decide +kernel
theorem dX12_share_188 : decode cX12_share 188 = .ok (.ifCond .eq 19, 3) := by decide +kernel
theorem dX12_share_191 : decode cX12_share 191 = .ok (.aload_n 0, 1) := by decide +kernel
theorem dX12_share_192 : decode cX12_share 192 = .ok (.getfield 84, 3) := by decide +kernel
theorem dX12_share_195 : decode cX12_share 195 = .ok (.iload 8, 2) := by decide +kernel
theorem dX12_share_197 : decode cX12_share 197 = .ok (.iaload, 1) := by decide +kernel
theorem dX12_share_198 : decode cX12_share 198 = .ok (.iload 6, 2) := by decide +kernel
theorem dX12_share_200 : decode cX12_share 200 = .ok (.if_icmp .gt 7, 3) := by decide +kernel
theorem dX12_share_203 : decode cX12_share 203 = .ok (.iconst 1, 1) := by decide +kernel
theorem dX12_share_204 : decode cX12_share 204 = .ok (.goto 4, 3) := by decide +kernel
theorem dX12_share_207 : decode cX12_share 207 = .ok (.iconst 0, 1) := by decide +kernel
theorem dX12_share_208 : decode cX12_share 208 = .ok (.istore 7, 2) := by decide +kernel
theorem dX12_share_210 : decode cX12_share 210 = .ok (.aload_n 0, 1) := by decide +kernel
theorem dX12_share_211 : decode cX12_share 211 = .ok (.getfield 84, 3) := by decide +kernel
theorem dX12_share_214 : decode cX12_share 214 = .ok (.iload 8, 2) := by decide +kernel
theorem dX12_share_216 : decode cX12_share 216 = .ok (.iaload, 1) := by decide +kernel
theorem dX12_share_217 : decode cX12_share 217 = .ok (.iload 6, 2) := by decide +kernel
theorem dX12_share_219 : decode cX12_share 219 = .ok (.if_icmp .ne 10, 3) := by decide +kernel
theorem dX12_share_222 : decode cX12_share 222 = .ok (.iload 6, 2) := by decide +kernel
theorem dX12_share_224 : decode cX12_share 224 = .ok (.iconst 1, 1) := by decide +kernel
theorem dX12_share_225 : decode cX12_share 225 = .ok (.iadd, 1) := by decide +kernel
theorem dX12_share_226 : decode cX12_share 226 = .ok (.goto 5, 3) := by decide +kernel
theorem dX12_share_229 : decode cX12_share 229 = .ok (.iload 6, 2) := by decide +kernel
theorem dX12_share_231 : decode cX12_share 231 = .ok (.istore 6, 2) := by decide +kernel
theorem dX12_share_233 : decode cX12_share 233 = .ok (.aload_n 0, 1) := by decide +kernel
theorem dX12_share_234 : decode cX12_share 234 = .ok (.getfield 93, 3) := by decide +kernel
theorem dX12_share_237 : decode cX12_share 237 = .ok (.aload_n 0, 1) := by decide +kernel
theorem dX12_share_238 : decode cX12_share 238 = .ok (.getfield 84, 3) := by decide +kernel
theorem dX12_share_241 : decode cX12_share 241 = .ok (.iload 8, 2) := by decide +kernel
theorem dX12_share_243 : decode cX12_share 243 = .ok (.iaload, 1) := by decide +kernel
theorem dX12_share_244 : decode cX12_share 244 = .ok (.dup2, 1) := by decide +kernel
theorem dX12_share_245 : decode cX12_share 245 = .ok (.iaload, 1) := by decide +kernel
theorem dX12_share_246 : decode cX12_share 246 = .ok (.aload_n 0, 1) := by decide +kernel
theorem dX12_share_247 : decode cX12_share 247 = .ok (.iload 8, 2) := by decide +kernel
theorem dX12_share_249 : decode cX12_share 249 = .ok (.invokevirtual 400, 3) := by decide +kernel
theorem dX12_share_252 : decode cX12_share 252 = .ok (.iadd, 1) := by decide +kernel
theorem dX12_share_253 : decode cX12_share 253 = .ok (.iastore, 1) := by decide +kernel
theorem dX12_share_254 : decode cX12_share 254 = .ok (.iinc 8 1, 3) := by decide +kernel
theorem dX12_share_257 : decode cX12_share 257 = .ok (.goto (-80), 3) := by decide +kernel
theorem dX12_share_260 : decode cX12_share 260 = .ok (.iload 7, 2) := by decide +kernel
theorem dX12_share_262 : decode cX12_share 262 = .ok (.ifCond .eq 53, 3) := by decide +kernel
theorem dX12_share_265 : decode cX12_share 265 = .ok (.aload_n 0, 1) := by decide +kernel
theorem dX12_share_266 : decode cX12_share 266 = .ok (.iload_n 1, 1) := by decide +kernel
theorem dX12_share_267 : decode cX12_share 267 = .ok (.invokevirtual 433, 3) := by decide +kernel
theorem dX12_share_270 : decode cX12_share 270 = .ok (.iload_n 2, 1) := by decide +kernel
theorem dX12_share_271 : decode cX12_share 271 = .ok (.if_icmp .lt 6, 3) := by decide +kernel
theorem dX12_share_274 : decode cX12_share 274 = .ok (.goto 41, 3) := by decide +kernel
theorem dX12_share_277 : decode cX12_share 277 = .ok (.aload_n 0, 1) := by decide +kernel
theorem dX12_share_278 : decode cX12_share 278 = .ok (.iload_n 1, 1) := by decide +kernel
theorem dX12_share_279 : decode cX12_share 279 = .ok (.invokevirtual 433, 3) := by decide +kernel
theorem dX12_share_282 : decode cX12_share 282 = .ok (.istore_n 2, 1) := by decide +kernel
theorem dX12_share_283 : decode cX12_share 283 = .ok (.iconst 0, 1) := by decide +kernel
theorem dX12_share_284 : decode cX12_share 284 = .ok (.istore 8, 2) := by decide +kernel
theorem dX12_share_286 : decode cX12_share 286 = .ok (.iload 8, 2) := by decide +kernel
theorem dX12_share_288 : decode cX12_share 288 = .ok (.aload_n 0, 1) := by decide +kernel
theorem dX12_share_289 : decode cX12_share 289 = .ok (.getfield 18, 3) := by decide +kernel
theorem dX12_share_292 : decode cX12_share 292 = .ok (.if_icmp .ge 23, 3) := by decide +kernel
theorem dX12_share_295 : decode cX12_share 295 = .ok (.aload_n 0, 1) := by decide +kernel
theorem dX12_share_296 : decode cX12_share 296 = .ok (.getfield 111, 3) := by decide +kernel
theorem dX12_share_299 : decode cX12_share 299 = .ok (.iload 8, 2) := by decide +kernel
theorem dX12_share_301 : decode cX12_share 301 = .ok (.aload_n 0, 1) := by decide +kernel
theorem dX12_share_302 : decode cX12_share 302 = .ok (.getfield 84, 3) := by decide +kernel
theorem dX12_share_305 : decode cX12_share 305 = .ok (.iload 8, 2) := by decide +kernel
theorem dX12_share_307 : decode cX12_share 307 = .ok (.iaload, 1) := by decide +kernel
theorem dX12_share_308 : decode cX12_share 308 = .ok (.iastore, 1) := by decide +kernel
theorem dX12_share_309 : decode cX12_share 309 = .ok (.iinc 8 1, 3) := by decide +kernel
theorem dX12_share_312 : decode cX12_share 312 = .ok (.goto (-26), 3) := by decide +kernel
theorem dX12_share_315 : decode cX12_share 315 = .ok (.iinc 4 1, 3) := by decide +kernel
theorem dX12_share_318 : decode cX12_share 318 = .ok (.goto (-219), 3) := by decide +kernel
theorem dX12_share_321 : decode cX12_share 321 = .ok (.aload_n 0, 1) := by decide +kernel
theorem dX12_share_322 : decode cX12_share 322 = .ok (.aload_n 0, 1) := by decide +kernel
theorem dX12_share_323 : decode cX12_share 323 = .ok (.getfield 18, 3) := by decide +kernel
theorem dX12_share_326 : decode cX12_share 326 = .ok (.putfield 461, 3) := by decide +kernel
theorem dX12_share_329 : decode cX12_share 329 = .ok (.iload_n 2, 1) := by decide +kernel
theorem dX12_share_330 : decode cX12_share 330 = .ok (.ireturn, 1) := by decide +kernel
theorem dX12_shareAt_0 : decode cX12_shareAt 0 = .ok (.aload_n 0, 1) := by decide +kernel
theorem dX12_shareAt_1 : decode cX12_shareAt 1 = .ok (.iconst 0, 1) := by decide +kernel
theorem dX12_shareAt_2 : decode cX12_shareAt 2 = .ok (.putfield 1, 3) := by decide +kernel
theorem dX12_shareAt_5 : decode cX12_shareAt 5 = .ok (.iload_n 1, 1) := by decide +kernel
theorem dX12_shareAt_6 : decode cX12_shareAt 6 = .ok (.iconst 0, 1) := by decide +kernel
theorem dX12_shareAt_7 : decode cX12_shareAt 7 = .ok (.aload_n 0, 1) := by decide +kernel
theorem dX12_shareAt_8 : decode cX12_shareAt 8 = .ok (.getfield 461, 3) := by decide +kernel
theorem dX12_shareAt_11 : decode cX12_shareAt 11 = .ok (.iconst 1, 1) := by decide +kernel
theorem dX12_shareAt_12 : decode cX12_shareAt 12 = .ok (.isub, 1) := by decide +kernel
theorem dX12_shareAt_13 : decode cX12_shareAt 13 = .ok (.invokestatic 262, 3) := by decide +kernel
theorem dX12_shareAt_16 : decode cX12_shareAt 16 = .ok (.ifCond .eq 12, 3) := by decide +kernel
theorem dX12_shareAt_19 : decode cX12_shareAt 19 = .ok (.aload_n 0, 1) := by decide +kernel
theorem dX12_shareAt_20 : decode cX12_shareAt 20 = .ok (.getfield 111, 3) := by decide +kernel
theorem dX12_shareAt_23 : decode cX12_shareAt 23 = .ok (.iload_n 1, 1) := by decide +kernel
theorem dX12_shareAt_24 : decode cX12_shareAt 24 = .ok (.iaload, 1) := by decide +kernel
theorem dX12_shareAt_25 : decode cX12_shareAt 25 = .ok (.goto 4, 3) := by decide +kernel
theorem dX12_shareAt_28 : decode cX12_shareAt 28 = .ok (.iconst (-1), 1) := by decide +kernel
theorem dX12_shareAt_29 : decode cX12_shareAt 29 = .ok (.ireturn, 1) := by decide +kernel
theorem dX12_isPack_0 : decode cX12_isPack 0 = .ok (.iload_n 1, 1) := by decide +kernel
theorem dX12_isPack_1 : decode cX12_isPack 1 = .ok (.iconst 0, 1) := by decide +kernel
theorem dX12_isPack_2 : decode cX12_isPack 2 = .ok (.aload_n 0, 1) := by decide +kernel
theorem dX12_isPack_3 : decode cX12_isPack 3 = .ok (.getfield 33, 3) := by decide +kernel
theorem dX12_isPack_6 : decode cX12_isPack 6 = .ok (.bipush 14, 2) := by decide +kernel
theorem dX12_isPack_8 : decode cX12_isPack 8 = .ok (.iaload, 1) := by decide +kernel
theorem dX12_isPack_9 : decode cX12_isPack 9 = .ok (.iconst 1, 1) := by decide +kernel
theorem dX12_isPack_10 : decode cX12_isPack 10 = .ok (.isub, 1) := by decide +kernel
theorem dX12_isPack_11 : decode cX12_isPack 11 = .ok (.invokestatic 262, 3) := by decide +kernel
theorem dX12_isPack_14 : decode cX12_isPack 14 = .ok (.ireturn, 1) := by decide +kernel
theorem dX12_pack_0 : decode cX12_pack 0 = .ok (.aload_n 0, 1) := by decide +kernel
theorem dX12_pack_1 : decode cX12_pack 1 = .ok (.iconst 0, 1) := by decide +kernel
theorem dX12_pack_2 : decode cX12_pack 2 = .ok (.putfield 1, 3) := by decide +kernel
theorem dX12_pack_5 : decode cX12_pack 5 = .ok (.aload_n 0, 1) := by decide +kernel
theorem dX12_pack_6 : decode cX12_pack 6 = .ok (.sipush 540, 3) := by decide +kernel
theorem dX12_pack_9 : decode cX12_pack 9 = .ok (.invokevirtual 292, 3) := by decide +kernel
theorem dX12_pack_12 : decode cX12_pack 12 = .ok (.aload_n 0, 1) := by decide +kernel
theorem dX12_pack_13 : decode cX12_pack 13 = .ok (.getfield 33, 3) := by decide +kernel
theorem dX12_pack_16 : decode cX12_pack 16 = .ok (.bipush 14, 2) := by decide +kernel
theorem dX12_pack_18 : decode cX12_pack 18 = .ok (.iaload, 1) := by decide +kernel
theorem dX12_pack_19 : decode cX12_pack 19 = .ok (.bipush 10, 2) := by decide +kernel
theorem dX12_pack_21 : decode cX12_pack 21 = .ok (.if_icmp .eq 46, 3) := by decide +kernel
theorem dX12_pack_24 : decode cX12_pack 24 = .ok (.aload_n 0, 1) := by decide +kernel
theorem dX12_pack_25 : decode cX12_pack 25 = .ok (.iconst 2, 1) := by decide +kernel
theorem dX12_pack_26 : decode cX12_pack 26 = .ok (.bipush 40, 2) := by decide +kernel
theorem dX12_pack_28 : decode cX12_pack 28 = .ok (.invokevirtual 412, 3) := by decide +kernel
theorem dX12_pack_31 : decode cX12_pack 31 = .ok (.ifCond .eq 36, 3) := by decide +kernel
theorem dX12_pack_34 : decode cX12_pack 34 = .ok (.iload_n 1, 1) := by decide +kernel
theorem dX12_pack_35 : decode cX12_pack 35 = .ok (.iconst 1, 1) := by decide +kernel
theorem dX12_pack_36 : decode cX12_pack 36 = .ok (.if_icmp .lt 31, 3) := by decide +kernel
theorem dX12_pack_39 : decode cX12_pack 39 = .ok (.iload_n 1, 1) := by decide +kernel
theorem dX12_pack_40 : decode cX12_pack 40 = .ok (.aload_n 0, 1) := by decide +kernel
theorem dX12_pack_41 : decode cX12_pack 41 = .ok (.getfield 397, 3) := by decide +kernel
theorem dX12_pack_44 : decode cX12_pack 44 = .ok (.if_icmp .gt 23, 3) := by decide +kernel
theorem dX12_pack_47 : decode cX12_pack 47 = .ok (.aload_n 0, 1) := by decide +kernel
theorem dX12_pack_48 : decode cX12_pack 48 = .ok (.getfield 397, 3) := by decide +kernel
theorem dX12_pack_51 : decode cX12_pack 51 = .ok (.iload_n 1, 1) := by decide +kernel
theorem dX12_pack_52 : decode cX12_pack 52 = .ok (.irem, 1) := by decide +kernel
theorem dX12_pack_53 : decode cX12_pack 53 = .ok (.ifCond .ne 14, 3) := by decide +kernel
theorem dX12_pack_56 : decode cX12_pack 56 = .ok (.iload_n 2, 1) := by decide +kernel
theorem dX12_pack_57 : decode cX12_pack 57 = .ok (.iconst 0, 1) := by decide +kernel
theorem dX12_pack_58 : decode cX12_pack 58 = .ok (.sipush 999, 3) := by decide +kernel
theorem dX12_pack_61 : decode cX12_pack 61 = .ok (.invokestatic 262, 3) := by decide +kernel
theorem dX12_pack_64 : decode cX12_pack 64 = .ok (.ifCond .ne 5, 3) := by decide +kernel
theorem dX12_pack_67 : decode cX12_pack 67 = .ok (.iconst (-1), 1) := by decide +kernel
theorem dX12_pack_68 : decode cX12_pack 68 = .ok (.ireturn, 1) := by decide +kernel
theorem dX12_pack_69 : decode cX12_pack 69 = .ok (.iconst 0, 1) := by decide +kernel
theorem dX12_pack_70 : decode cX12_pack 70 = .ok (.istore_n 3, 1) := by decide +kernel
theorem dX12_pack_71 : decode cX12_pack 71 = .ok (.iload_n 3, 1) := by decide +kernel
theorem dX12_pack_72 : decode cX12_pack 72 = .ok (.aload_n 0, 1) := by decide +kernel
theorem dX12_pack_73 : decode cX12_pack 73 = .ok (.getfield 397, 3) := by decide +kernel
theorem dX12_pack_76 : decode cX12_pack 76 = .ok (.if_icmp .ge 24, 3) := by decide +kernel
theorem dX12_pack_79 : decode cX12_pack 79 = .ok (.aload_n 0, 1) := by decide +kernel
theorem dX12_pack_80 : decode cX12_pack 80 = .ok (.aload_n 0, 1) := by decide +kernel
theorem dX12_pack_81 : decode cX12_pack 81 = .ok (.getfield 81, 3) := by decide +kernel
theorem dX12_pack_84 : decode cX12_pack 84 = .ok (.iload_n 3, 1) := by decide +kernel
theorem dX12_pack_85 : decode cX12_pack 85 = .ok (.iaload, 1) := by decide +kernel
theorem dX12_pack_86 : decode cX12_pack 86 = .ok (.invokevirtual 332, 3) := by decide +kernel
theorem dX12_pack_89 : decode cX12_pack 89 = .ok (.ifCond .lt 5, 3) := by decide +kernel
theorem dX12_pack_92 : decode cX12_pack 92 = .ok (.iconst (-1), 1) := by decide +kernel
theorem dX12_pack_93 : decode cX12_pack 93 = .ok (.ireturn, 1) := by decide +kernel
theorem dX12_pack_94 : decode cX12_pack 94 = .ok (.iinc 3 1, 3) := by decide +kernel
theorem dX12_pack_97 : decode cX12_pack 97 = .ok (.goto (-26), 3) := by decide +kernel
theorem dX12_pack_100 : decode cX12_pack 100 = .ok (.aload_n 0, 1) := by decide +kernel
theorem dX12_pack_101 : decode cX12_pack 101 = .ok (.getfield 33, 3) := by decide +kernel
theorem dX12_pack_104 : decode cX12_pack 104 = .ok (.bipush 14, 2) := by decide +kernel
theorem dX12_pack_106 : decode cX12_pack 106 = .ok (.iaload, 1) := by decide +kernel
theorem dX12_pack_107 : decode cX12_pack 107 = .ok (.istore_n 3, 1) := by decide +kernel
theorem dX12_pack_108 : decode cX12_pack 108 = .ok (.aload_n 0, 1) := by decide +kernel
theorem dX12_pack_109 : decode cX12_pack 109 = .ok (.getfield 33, 3) := by decide +kernel
theorem dX12_pack_112 : decode cX12_pack 112 = .ok (.sipush 1677, 3) := by decide +kernel
theorem dX12_pack_115 : decode cX12_pack 115 = .ok (.iconst 3, 1) := by decide +kernel
theorem dX12_pack_116 : decode cX12_pack 116 = .ok (.iload_n 3, 1) := by decide +kernel
theorem dX12_pack_117 : decode cX12_pack 117 = .ok (.imul, 1) := by decide +kernel
theorem dX12_pack_118 : decode cX12_pack 118 = .ok (.iadd, 1) := by decide +kernel
theorem dX12_pack_119 : decode cX12_pack 119 = .ok (.iload_n 2, 1) := by decide +kernel
theorem dX12_pack_120 : decode cX12_pack 120 = .ok (.iastore, 1) := by decide +kernel
theorem dX12_pack_121 : decode cX12_pack 121 = .ok (.aload_n 0, 1) := by decide +kernel
theorem dX12_pack_122 : decode cX12_pack 122 = .ok (.getfield 33, 3) := by decide +kernel
theorem dX12_pack_125 : decode cX12_pack 125 = .ok (.sipush 1677, 3) := by decide +kernel
theorem dX12_pack_128 : decode cX12_pack 128 = .ok (.iconst 3, 1) := by decide +kernel
theorem dX12_pack_129 : decode cX12_pack 129 = .ok (.iload_n 3, 1) := by decide +kernel
theorem dX12_pack_130 : decode cX12_pack 130 = .ok (.imul, 1) := by decide +kernel
theorem dX12_pack_131 : decode cX12_pack 131 = .ok (.iadd, 1) := by decide +kernel
theorem dX12_pack_132 : decode cX12_pack 132 = .ok (.iconst 1, 1) := by decide +kernel
theorem dX12_pack_133 : decode cX12_pack 133 = .ok (.iadd, 1) := by decide +kernel
theorem dX12_pack_134 : decode cX12_pack 134 = .ok (.iload_n 1, 1) := by decide +kernel
theorem dX12_pack_135 : decode cX12_pack 135 = .ok (.iastore, 1) := by decide +kernel
theorem dX12_pack_136 : decode cX12_pack 136 = .ok (.aload_n 0, 1) := by decide +kernel
theorem dX12_pack_137 : decode cX12_pack 137 = .ok (.getfield 33, 3) := by decide +kernel
theorem dX12_pack_140 : decode cX12_pack 140 = .ok (.sipush 1677, 3) := by decide +kernel
theorem dX12_pack_143 : decode cX12_pack 143 = .ok (.iconst 3, 1) := by decide +kernel
theorem dX12_pack_144 : decode cX12_pack 144 = .ok (.iload_n 3, 1) := by decide +kernel
theorem dX12_pack_145 : decode cX12_pack 145 = .ok (.imul, 1) := by decide +kernel
theorem dX12_pack_146 : decode cX12_pack 146 = .ok (.iadd, 1) := by decide +kernel
theorem dX12_pack_147 : decode cX12_pack 147 = .ok (.iconst 2, 1) := by decide +kernel
theorem dX12_pack_148 : decode cX12_pack 148 = .ok (.iadd, 1) := by decide +kernel
theorem dX12_pack_149 : decode cX12_pack 149 = .ok (.aload_n 0, 1) := by decide +kernel
theorem dX12_pack_150 : decode cX12_pack 150 = .ok (.getfield 397, 3) := by decide +kernel
theorem dX12_pack_153 : decode cX12_pack 153 = .ok (.iastore, 1) := by decide +kernel
theorem dX12_pack_154 : decode cX12_pack 154 = .ok (.iconst 0, 1) := by decide +kernel
theorem dX12_pack_155 : decode cX12_pack 155 = .ok (.istore 4, 2) := by decide +kernel
theorem dX12_pack_157 : decode cX12_pack 157 = .ok (.iload 4, 2) := by decide +kernel
theorem dX12_pack_159 : decode cX12_pack 159 = .ok (.aload_n 0, 1) := by decide +kernel
theorem dX12_pack_160 : decode cX12_pack 160 = .ok (.getfield 397, 3) := by decide +kernel
theorem dX12_pack_163 : decode cX12_pack 163 = .ok (.if_icmp .ge 55, 3) := by decide +kernel
theorem dX12_pack_166 : decode cX12_pack 166 = .ok (.aload_n 0, 1) := by decide +kernel
theorem dX12_pack_167 : decode cX12_pack 167 = .ok (.getfield 33, 3) := by decide +kernel
theorem dX12_pack_170 : decode cX12_pack 170 = .ok (.sipush 1707, 3) := by decide +kernel
theorem dX12_pack_173 : decode cX12_pack 173 = .ok (.bipush 40, 2) := by decide +kernel
theorem dX12_pack_175 : decode cX12_pack 175 = .ok (.iload_n 3, 1) := by decide +kernel
theorem dX12_pack_176 : decode cX12_pack 176 = .ok (.imul, 1) := by decide +kernel
theorem dX12_pack_177 : decode cX12_pack 177 = .ok (.iadd, 1) := by decide +kernel
theorem dX12_pack_178 : decode cX12_pack 178 = .ok (.iload 4, 2) := by decide +kernel
theorem dX12_pack_180 : decode cX12_pack 180 = .ok (.iadd, 1) := by decide +kernel
theorem dX12_pack_181 : decode cX12_pack 181 = .ok (.aload_n 0, 1) := by decide +kernel
theorem dX12_pack_182 : decode cX12_pack 182 = .ok (.getfield 81, 3) := by decide +kernel
theorem dX12_pack_185 : decode cX12_pack 185 = .ok (.iload 4, 2) := by decide +kernel
theorem dX12_pack_187 : decode cX12_pack 187 = .ok (.iaload, 1) := by decide +kernel
theorem dX12_pack_188 : decode cX12_pack 188 = .ok (.iastore, 1) := by decide +kernel
theorem dX12_pack_189 : decode cX12_pack 189 = .ok (.aload_n 0, 1) := by decide +kernel
theorem dX12_pack_190 : decode cX12_pack 190 = .ok (.getfield 33, 3) := by decide +kernel
theorem dX12_pack_193 : decode cX12_pack 193 = .ok (.sipush 2107, 3) := by decide +kernel
theorem dX12_pack_196 : decode cX12_pack 196 = .ok (.bipush 40, 2) := by decide +kernel
theorem dX12_pack_198 : decode cX12_pack 198 = .ok (.iload_n 3, 1) := by decide +kernel
theorem dX12_pack_199 : decode cX12_pack 199 = .ok (.imul, 1) := by decide +kernel
theorem dX12_pack_200 : decode cX12_pack 200 = .ok (.iadd, 1) := by decide +kernel
theorem dX12_pack_201 : decode cX12_pack 201 = .ok (.iload 4, 2) := by decide +kernel
theorem dX12_pack_203 : decode cX12_pack 203 = .ok (.iadd, 1) := by decide +kernel
theorem dX12_pack_204 : decode cX12_pack 204 = .ok (.aload_n 0, 1) := by decide +kernel
theorem dX12_pack_205 : decode cX12_pack 205 = .ok (.getfield 81, 3) := by decide +kernel
theorem dX12_pack_208 : decode cX12_pack 208 = .ok (.iload 4, 2) := by decide +kernel
theorem dX12_pack_210 : decode cX12_pack 210 = .ok (.iaload, 1) := by decide +kernel
theorem dX12_pack_211 : decode cX12_pack 211 = .ok (.iastore, 1) := by decide +kernel
theorem dX12_pack_212 : decode cX12_pack 212 = .ok (.iinc 4 1, 3) := by decide +kernel
theorem dX12_pack_215 : decode cX12_pack 215 = .ok (.goto (-58), 3) := by decide +kernel
theorem dX12_pack_218 : decode cX12_pack 218 = .ok (.aload_n 0, 1) := by decide +kernel
theorem dX12_pack_219 : decode cX12_pack 219 = .ok (.getfield 33, 3) := by decide +kernel
theorem dX12_pack_222 : decode cX12_pack 222 = .ok (.bipush 14, 2) := by decide +kernel
theorem dX12_pack_224 : decode cX12_pack 224 = .ok (.dup2, 1) := by decide +kernel
theorem dX12_pack_225 : decode cX12_pack 225 = .ok (.iaload, 1) := by decide +kernel
theorem dX12_pack_226 : decode cX12_pack 226 = .ok (.iconst 1, 1) := by decide +kernel
theorem dX12_pack_227 : decode cX12_pack 227 = .ok (.iadd, 1) := by decide +kernel
theorem dX12_pack_228 : decode cX12_pack 228 = .ok (.iastore, 1) := by decide +kernel
theorem dX12_pack_229 : decode cX12_pack 229 = .ok (.iload_n 3, 1) := by decide +kernel
theorem dX12_pack_230 : decode cX12_pack 230 = .ok (.ireturn, 1) := by decide +kernel
theorem dX12_rowsIn_0 : decode cX12_rowsIn 0 = .ok (.aload_n 0, 1) := by decide +kernel
theorem dX12_rowsIn_1 : decode cX12_rowsIn 1 = .ok (.getfield 33, 3) := by decide +kernel
theorem dX12_rowsIn_4 : decode cX12_rowsIn 4 = .ok (.sipush 1677, 3) := by decide +kernel
theorem dX12_rowsIn_7 : decode cX12_rowsIn 7 = .ok (.iconst 3, 1) := by decide +kernel
theorem dX12_rowsIn_8 : decode cX12_rowsIn 8 = .ok (.iload_n 1, 1) := by decide +kernel
theorem dX12_rowsIn_9 : decode cX12_rowsIn 9 = .ok (.imul, 1) := by decide +kernel
theorem dX12_rowsIn_10 : decode cX12_rowsIn 10 = .ok (.iadd, 1) := by decide +kernel
theorem dX12_rowsIn_11 : decode cX12_rowsIn 11 = .ok (.iconst 1, 1) := by decide +kernel
theorem dX12_rowsIn_12 : decode cX12_rowsIn 12 = .ok (.iadd, 1) := by decide +kernel
theorem dX12_rowsIn_13 : decode cX12_rowsIn 13 = .ok (.iaload, 1) := by decide +kernel
theorem dX12_rowsIn_14 : decode cX12_rowsIn 14 = .ok (.ireturn, 1) := by decide +kernel
theorem dX12_wide_0 : decode cX12_wide 0 = .ok (.aload_n 0, 1) := by decide +kernel
theorem dX12_wide_1 : decode cX12_wide 1 = .ok (.getfield 33, 3) := by decide +kernel
theorem dX12_wide_4 : decode cX12_wide 4 = .ok (.sipush 1677, 3) := by decide +kernel
theorem dX12_wide_7 : decode cX12_wide 7 = .ok (.iconst 3, 1) := by decide +kernel
theorem dX12_wide_8 : decode cX12_wide 8 = .ok (.iload_n 1, 1) := by decide +kernel
theorem dX12_wide_9 : decode cX12_wide 9 = .ok (.imul, 1) := by decide +kernel
theorem dX12_wide_10 : decode cX12_wide 10 = .ok (.iadd, 1) := by decide +kernel
theorem dX12_wide_11 : decode cX12_wide 11 = .ok (.iconst 2, 1) := by decide +kernel
theorem dX12_wide_12 : decode cX12_wide 12 = .ok (.iadd, 1) := by decide +kernel
theorem dX12_wide_13 : decode cX12_wide 13 = .ok (.iaload, 1) := by decide +kernel
theorem dX12_wide_14 : decode cX12_wide 14 = .ok (.aload_n 0, 1) := by decide +kernel
theorem dX12_wide_15 : decode cX12_wide 15 = .ok (.getfield 33, 3) := by decide +kernel
theorem dX12_wide_18 : decode cX12_wide 18 = .ok (.sipush 1677, 3) := by decide +kernel
theorem dX12_wide_21 : decode cX12_wide 21 = .ok (.iconst 3, 1) := by decide +kernel
theorem dX12_wide_22 : decode cX12_wide 22 = .ok (.iload_n 1, 1) := by decide +kernel
theorem dX12_wide_23 : decode cX12_wide 23 = .ok (.imul, 1) := by decide +kernel
theorem dX12_wide_24 : decode cX12_wide 24 = .ok (.iadd, 1) := by decide +kernel
theorem dX12_wide_25 : decode cX12_wide 25 = .ok (.iconst 1, 1) := by decide +kernel
theorem dX12_wide_26 : decode cX12_wide 26 = .ok (.iadd, 1) := by decide +kernel
theorem dX12_wide_27 : decode cX12_wide 27 = .ok (.iaload, 1) := by decide +kernel
theorem dX12_wide_28 : decode cX12_wide 28 = .ok (.idiv, 1) := by decide +kernel
theorem dX12_wide_29 : decode cX12_wide 29 = .ok (.ireturn, 1) := by decide +kernel
theorem dX12_holdOf_0 : decode cX12_holdOf 0 = .ok (.iconst 0, 1) := by decide +kernel
theorem dX12_holdOf_1 : decode cX12_holdOf 1 = .ok (.istore_n 3, 1) := by decide +kernel
theorem dX12_holdOf_2 : decode cX12_holdOf 2 = .ok (.iconst 0, 1) := by decide +kernel
theorem dX12_holdOf_3 : decode cX12_holdOf 3 = .ok (.istore 4, 2) := by decide +kernel
theorem dX12_holdOf_5 : decode cX12_holdOf 5 = .ok (.iload 4, 2) := by decide +kernel
theorem dX12_holdOf_7 : decode cX12_holdOf 7 = .ok (.aload_n 0, 1) := by decide +kernel
theorem dX12_holdOf_8 : decode cX12_holdOf 8 = .ok (.iload_n 1, 1) := by decide +kernel
theorem dX12_holdOf_9 : decode cX12_holdOf 9 = .ok (.invokevirtual 464, 3) := by decide +kernel
theorem dX12_holdOf_12 : decode cX12_holdOf 12 = .ok (.if_icmp .ge 41, 3) := by decide +kernel
theorem dX12_holdOf_15 : decode cX12_holdOf 15 = .ok (.iload_n 3, 1) := by decide +kernel
theorem dX12_holdOf_16 : decode cX12_holdOf 16 = .ok (.aload_n 0, 1) := by decide +kernel
theorem dX12_holdOf_17 : decode cX12_holdOf 17 = .ok (.getfield 57, 3) := by decide +kernel
theorem dX12_holdOf_20 : decode cX12_holdOf 20 = .ok (.aload_n 0, 1) := by decide +kernel
theorem dX12_holdOf_21 : decode cX12_holdOf 21 = .ok (.getfield 33, 3) := by decide +kernel
theorem dX12_holdOf_24 : decode cX12_holdOf 24 = .ok (.sipush 2107, 3) := by decide +kernel
theorem dX12_holdOf_27 : decode cX12_holdOf 27 = .ok (.bipush 40, 2) := by decide +kernel
theorem dX12_holdOf_29 : decode cX12_holdOf 29 = .ok (.iload_n 1, 1) := by decide +kernel
theorem dX12_holdOf_30 : decode cX12_holdOf 30 = .ok (.imul, 1) := by decide +kernel
theorem dX12_holdOf_31 : decode cX12_holdOf 31 = .ok (.iadd, 1) := by decide +kernel
theorem dX12_holdOf_32 : decode cX12_holdOf 32 = .ok (.aload_n 0, 1) := by decide +kernel
theorem dX12_holdOf_33 : decode cX12_holdOf 33 = .ok (.iload_n 1, 1) := by decide +kernel
theorem dX12_holdOf_34 : decode cX12_holdOf 34 = .ok (.invokevirtual 464, 3) := by decide +kernel
theorem dX12_holdOf_37 : decode cX12_holdOf 37 = .ok (.iload_n 2, 1) := by decide +kernel
theorem dX12_holdOf_38 : decode cX12_holdOf 38 = .ok (.imul, 1) := by decide +kernel
theorem dX12_holdOf_39 : decode cX12_holdOf 39 = .ok (.iadd, 1) := by decide +kernel
theorem dX12_holdOf_40 : decode cX12_holdOf 40 = .ok (.iload 4, 2) := by decide +kernel
theorem dX12_holdOf_42 : decode cX12_holdOf 42 = .ok (.iadd, 1) := by decide +kernel
theorem dX12_holdOf_43 : decode cX12_holdOf 43 = .ok (.iaload, 1) := by decide +kernel
theorem dX12_holdOf_44 : decode cX12_holdOf 44 = .ok (.iaload, 1) := by decide +kernel
theorem dX12_holdOf_45 : decode cX12_holdOf 45 = .ok (.iadd, 1) := by decide +kernel
theorem dX12_holdOf_46 : decode cX12_holdOf 46 = .ok (.istore_n 3, 1) := by decide +kernel
theorem dX12_holdOf_47 : decode cX12_holdOf 47 = .ok (.iinc 4 1, 3) := by decide +kernel
theorem dX12_holdOf_50 : decode cX12_holdOf 50 = .ok (.goto (-45), 3) := by decide +kernel
theorem dX12_holdOf_53 : decode cX12_holdOf 53 = .ok (.iload_n 3, 1) := by decide +kernel
theorem dX12_holdOf_54 : decode cX12_holdOf 54 = .ok (.ireturn, 1) := by decide +kernel
theorem dX12_flowIn_0 : decode cX12_flowIn 0 = .ok (.iconst 0, 1) := by decide +kernel
theorem dX12_flowIn_1 : decode cX12_flowIn 1 = .ok (.istore_n 3, 1) := by decide +kernel
theorem dX12_flowIn_2 : decode cX12_flowIn 2 = .ok (.iconst 0, 1) := by decide +kernel
theorem dX12_flowIn_3 : decode cX12_flowIn 3 = .ok (.istore 4, 2) := by decide +kernel
theorem dX12_flowIn_5 : decode cX12_flowIn 5 = .ok (.iload 4, 2) := by decide +kernel
theorem dX12_flowIn_7 : decode cX12_flowIn 7 = .ok (.aload_n 0, 1) := by decide +kernel
theorem dX12_flowIn_8 : decode cX12_flowIn 8 = .ok (.iload_n 1, 1) := by decide +kernel
theorem dX12_flowIn_9 : decode cX12_flowIn 9 = .ok (.invokevirtual 464, 3) := by decide +kernel
theorem dX12_flowIn_12 : decode cX12_flowIn 12 = .ok (.if_icmp .ge 40, 3) := by decide +kernel
theorem dX12_flowIn_15 : decode cX12_flowIn 15 = .ok (.iload_n 3, 1) := by decide +kernel
theorem dX12_flowIn_16 : decode cX12_flowIn 16 = .ok (.aload_n 0, 1) := by decide +kernel
theorem dX12_flowIn_17 : decode cX12_flowIn 17 = .ok (.aload_n 0, 1) := by decide +kernel
theorem dX12_flowIn_18 : decode cX12_flowIn 18 = .ok (.getfield 33, 3) := by decide +kernel
theorem dX12_flowIn_21 : decode cX12_flowIn 21 = .ok (.sipush 2107, 3) := by decide +kernel
theorem dX12_flowIn_24 : decode cX12_flowIn 24 = .ok (.bipush 40, 2) := by decide +kernel
theorem dX12_flowIn_26 : decode cX12_flowIn 26 = .ok (.iload_n 1, 1) := by decide +kernel
theorem dX12_flowIn_27 : decode cX12_flowIn 27 = .ok (.imul, 1) := by decide +kernel
theorem dX12_flowIn_28 : decode cX12_flowIn 28 = .ok (.iadd, 1) := by decide +kernel
theorem dX12_flowIn_29 : decode cX12_flowIn 29 = .ok (.aload_n 0, 1) := by decide +kernel
theorem dX12_flowIn_30 : decode cX12_flowIn 30 = .ok (.iload_n 1, 1) := by decide +kernel
theorem dX12_flowIn_31 : decode cX12_flowIn 31 = .ok (.invokevirtual 464, 3) := by decide +kernel
theorem dX12_flowIn_34 : decode cX12_flowIn 34 = .ok (.iload_n 2, 1) := by decide +kernel
theorem dX12_flowIn_35 : decode cX12_flowIn 35 = .ok (.imul, 1) := by decide +kernel
theorem dX12_flowIn_36 : decode cX12_flowIn 36 = .ok (.iadd, 1) := by decide +kernel
theorem dX12_flowIn_37 : decode cX12_flowIn 37 = .ok (.iload 4, 2) := by decide +kernel
theorem dX12_flowIn_39 : decode cX12_flowIn 39 = .ok (.iadd, 1) := by decide +kernel
theorem dX12_flowIn_40 : decode cX12_flowIn 40 = .ok (.iaload, 1) := by decide +kernel
theorem dX12_flowIn_41 : decode cX12_flowIn 41 = .ok (.invokevirtual 328, 3) := by decide +kernel
theorem dX12_flowIn_44 : decode cX12_flowIn 44 = .ok (.iadd, 1) := by decide +kernel
theorem dX12_flowIn_45 : decode cX12_flowIn 45 = .ok (.istore_n 3, 1) := by decide +kernel
theorem dX12_flowIn_46 : decode cX12_flowIn 46 = .ok (.iinc 4 1, 3) := by decide +kernel
theorem dX12_flowIn_49 : decode cX12_flowIn 49 = .ok (.goto (-44), 3) := by decide +kernel
theorem dX12_flowIn_52 : decode cX12_flowIn 52 = .ok (.iload_n 3, 1) := by decide +kernel
theorem dX12_flowIn_53 : decode cX12_flowIn 53 = .ok (.ireturn, 1) := by decide +kernel
theorem dX12_cyclesOf_0 : decode cX12_cyclesOf 0 = .ok (.ldc_w 327, 3) := by decide +kernel
theorem dX12_cyclesOf_3 : decode cX12_cyclesOf 3 = .ok (.aload_n 0, 1) := by decide +kernel
theorem dX12_cyclesOf_4 : decode cX12_cyclesOf 4 = .ok (.iload_n 1, 1) := by decide +kernel
theorem dX12_cyclesOf_5 : decode cX12_cyclesOf 5 = .ok (.iload_n 2, 1) := by decide +kernel
theorem dX12_cyclesOf_6 : decode cX12_cyclesOf 6 = .ok (.invokevirtual 467, 3) := by decide +kernel
theorem dX12_cyclesOf_9 : decode cX12_cyclesOf 9 = .ok (.idiv, 1) := by decide +kernel
theorem dX12_cyclesOf_10 : decode cX12_cyclesOf 10 = .ok (.istore_n 3, 1) := by decide +kernel
theorem dX12_cyclesOf_11 : decode cX12_cyclesOf 11 = .ok (.ldc2_w 470, 3) := by decide +kernel
theorem dX12_cyclesOf_14 : decode cX12_cyclesOf 14 = .ok (.aload_n 0, 1) := by decide +kernel
theorem dX12_cyclesOf_15 : decode cX12_cyclesOf 15 = .ok (.getfield 33, 3) := by decide +kernel
theorem dX12_cyclesOf_18 : decode cX12_cyclesOf 18 = .ok (.iconst 2, 1) := by decide +kernel
theorem dX12_cyclesOf_19 : decode cX12_cyclesOf 19 = .ok (.iaload, 1) := by decide +kernel
theorem dX12_cyclesOf_20 : decode cX12_cyclesOf 20 = .ok (.i2l, 1) := by decide +kernel
theorem dX12_cyclesOf_21 : decode cX12_cyclesOf 21 = .ok (.lmul, 1) := by decide +kernel
theorem dX12_cyclesOf_22 : decode cX12_cyclesOf 22 = .ok (.aload_n 0, 1) := by decide +kernel
theorem dX12_cyclesOf_23 : decode cX12_cyclesOf 23 = .ok (.getfield 33, 3) := by decide +kernel
theorem dX12_cyclesOf_26 : decode cX12_cyclesOf 26 = .ok (.iconst 3, 1) := by decide +kernel
theorem dX12_cyclesOf_27 : decode cX12_cyclesOf 27 = .ok (.iaload, 1) := by decide +kernel
theorem dX12_cyclesOf_28 : decode cX12_cyclesOf 28 = .ok (.iload_n 3, 1) := by decide +kernel
theorem dX12_cyclesOf_29 : decode cX12_cyclesOf 29 = .ok (.imul, 1) := by decide +kernel
theorem dX12_cyclesOf_30 : decode cX12_cyclesOf 30 = .ok (.bipush 10, 2) := by decide +kernel
theorem dX12_cyclesOf_32 : decode cX12_cyclesOf 32 = .ok (.idiv, 1) := by decide +kernel
theorem dX12_cyclesOf_33 : decode cX12_cyclesOf 33 = .ok (.i2l, 1) := by decide +kernel
theorem dX12_cyclesOf_34 : decode cX12_cyclesOf 34 = .ok (.ladd, 1) := by decide +kernel
theorem dX12_cyclesOf_35 : decode cX12_cyclesOf 35 = .ok (.lstore 4, 2) := by decide +kernel
theorem dX12_cyclesOf_37 : decode cX12_cyclesOf 37 = .ok (.aload_n 0, 1) := by decide +kernel
theorem dX12_cyclesOf_38 : decode cX12_cyclesOf 38 = .ok (.iload_n 1, 1) := by decide +kernel
theorem dX12_cyclesOf_39 : decode cX12_cyclesOf 39 = .ok (.iload_n 2, 1) := by decide +kernel
theorem dX12_cyclesOf_40 : decode cX12_cyclesOf 40 = .ok (.invokevirtual 472, 3) := by decide +kernel
theorem dX12_cyclesOf_43 : decode cX12_cyclesOf 43 = .ok (.i2l, 1) := by decide +kernel
theorem dX12_cyclesOf_44 : decode cX12_cyclesOf 44 = .ok (.lstore 6, 2) := by decide +kernel
theorem dX12_cyclesOf_46 : decode cX12_cyclesOf 46 = .ok (.aload_n 0, 1) := by decide +kernel
theorem dX12_cyclesOf_47 : decode cX12_cyclesOf 47 = .ok (.getfield 33, 3) := by decide +kernel
theorem dX12_cyclesOf_50 : decode cX12_cyclesOf 50 = .ok (.iconst 4, 1) := by decide +kernel
theorem dX12_cyclesOf_51 : decode cX12_cyclesOf 51 = .ok (.iaload, 1) := by decide +kernel
theorem dX12_cyclesOf_52 : decode cX12_cyclesOf 52 = .ok (.i2l, 1) := by decide +kernel
theorem dX12_cyclesOf_53 : decode cX12_cyclesOf 53 = .ok (.ldc2_w 475, 3) := by decide +kernel
theorem dX12_cyclesOf_56 : decode cX12_cyclesOf 56 = .ok (.lmul, 1) := by decide +kernel
theorem dX12_cyclesOf_57 : decode cX12_cyclesOf 57 = .ok (.lstore 8, 2) := by decide +kernel
theorem dX12_cyclesOf_59 : decode cX12_cyclesOf 59 = .ok (.iconst 0, 1) := by decide +kernel
theorem dX12_cyclesOf_60 : decode cX12_cyclesOf 60 = .ok (.istore 10, 2) := by decide +kernel
theorem dX12_cyclesOf_62 : decode cX12_cyclesOf 62 = .ok (.ldc_w 477, 3) := by decide +kernel
theorem dX12_cyclesOf_65 : decode cX12_cyclesOf 65 = .ok (.istore 11, 2) := by decide +kernel
theorem dX12_cyclesOf_67 : decode cX12_cyclesOf 67 = .ok (.iload 10, 2) := by decide +kernel
theorem dX12_cyclesOf_69 : decode cX12_cyclesOf 69 = .ok (.iload 11, 2) := by decide +kernel
theorem dX12_cyclesOf_71 : decode cX12_cyclesOf 71 = .ok (.if_icmp .ge 47, 3) := by decide +kernel
theorem dX12_cyclesOf_74 : decode cX12_cyclesOf 74 = .ok (.iload 10, 2) := by decide +kernel
theorem dX12_cyclesOf_76 : decode cX12_cyclesOf 76 = .ok (.iload 11, 2) := by decide +kernel
theorem dX12_cyclesOf_78 : decode cX12_cyclesOf 78 = .ok (.iadd, 1) := by decide +kernel
theorem dX12_cyclesOf_79 : decode cX12_cyclesOf 79 = .ok (.iconst 2, 1) := by decide +kernel
theorem dX12_cyclesOf_80 : decode cX12_cyclesOf 80 = .ok (.idiv, 1) := by decide +kernel
theorem dX12_cyclesOf_81 : decode cX12_cyclesOf 81 = .ok (.istore 12, 2) := by decide +kernel
theorem dX12_cyclesOf_83 : decode cX12_cyclesOf 83 = .ok (.lload 6, 2) := by decide +kernel
theorem dX12_cyclesOf_85 : decode cX12_cyclesOf 85 = .ok (.ldc2_w 475, 3) := by decide +kernel
theorem dX12_cyclesOf_88 : decode cX12_cyclesOf 88 = .ok (.iload 12, 2) := by decide +kernel
theorem dX12_cyclesOf_90 : decode cX12_cyclesOf 90 = .ok (.i2l, 1) := by decide +kernel
theorem dX12_cyclesOf_91 : decode cX12_cyclesOf 91 = .ok (.lload 4, 2) := by decide +kernel
theorem dX12_cyclesOf_93 : decode cX12_cyclesOf 93 = .ok (.lmul, 1) := by decide +kernel
theorem dX12_cyclesOf_94 : decode cX12_cyclesOf 94 = .ok (.lsub, 1) := by decide +kernel
theorem dX12_cyclesOf_95 : decode cX12_cyclesOf 95 = .ok (.lmul, 1) := by decide +kernel
theorem dX12_cyclesOf_96 : decode cX12_cyclesOf 96 = .ok (.lload 8, 2) := by decide +kernel
theorem dX12_cyclesOf_98 : decode cX12_cyclesOf 98 = .ok (.lcmp, 1) := by decide +kernel
theorem dX12_cyclesOf_99 : decode cX12_cyclesOf 99 = .ok (.ifCond .ge 10, 3) := by decide +kernel
theorem dX12_cyclesOf_102 : decode cX12_cyclesOf 102 = .ok (.iload 12, 2) := by decide +kernel
theorem dX12_cyclesOf_104 : decode cX12_cyclesOf 104 = .ok (.istore 11, 2) := by decide +kernel
theorem dX12_cyclesOf_106 : decode cX12_cyclesOf 106 = .ok (.goto 9, 3) := by decide +kernel
theorem dX12_cyclesOf_109 : decode cX12_cyclesOf 109 = .ok (.iload 12, 2) := by decide +kernel
theorem dX12_cyclesOf_111 : decode cX12_cyclesOf 111 = .ok (.iconst 1, 1) := by decide +kernel
theorem dX12_cyclesOf_112 : decode cX12_cyclesOf 112 = .ok (.iadd, 1) := by decide +kernel
theorem dX12_cyclesOf_113 : decode cX12_cyclesOf 113 = .ok (.istore 10, 2) := by decide +kernel
theorem dX12_cyclesOf_115 : decode cX12_cyclesOf 115 = .ok (.goto (-48), 3) := by decide +kernel
theorem dX12_cyclesOf_118 : decode cX12_cyclesOf 118 = .ok (.iload 10, 2) := by decide +kernel
theorem dX12_cyclesOf_120 : decode cX12_cyclesOf 120 = .ok (.ireturn, 1) := by decide +kernel
theorem dX12_row_0 : decode cX12_row 0 = .ok (.aload_n 0, 1) := by decide +kernel
theorem dX12_row_1 : decode cX12_row 1 = .ok (.aload_n 0, 1) := by decide +kernel
theorem dX12_row_2 : decode cX12_row 2 = .ok (.iload_n 1, 1) := by decide +kernel
theorem dX12_row_3 : decode cX12_row 3 = .ok (.invokevirtual 478, 3) := by decide +kernel
theorem dX12_row_6 : decode cX12_row 6 = .ok (.ifCond .eq 39, 3) := by decide +kernel
theorem dX12_row_9 : decode cX12_row 9 = .ok (.iload_n 2, 1) := by decide +kernel
theorem dX12_row_10 : decode cX12_row 10 = .ok (.iconst 0, 1) := by decide +kernel
theorem dX12_row_11 : decode cX12_row 11 = .ok (.aload_n 0, 1) := by decide +kernel
theorem dX12_row_12 : decode cX12_row 12 = .ok (.iload_n 1, 1) := by decide +kernel
theorem dX12_row_13 : decode cX12_row 13 = .ok (.invokevirtual 478, 3) := by decide +kernel
theorem dX12_row_16 : decode cX12_row 16 = .ok (.ifCond .eq 13, 3) := by decide +kernel
theorem dX12_row_19 : decode cX12_row 19 = .ok (.aload_n 0, 1) := by decide +kernel
theorem dX12_row_20 : decode cX12_row 20 = .ok (.iload_n 1, 1) := by decide +kernel
theorem dX12_row_21 : decode cX12_row 21 = .ok (.invokevirtual 481, 3) := by decide +kernel
theorem dX12_row_24 : decode cX12_row 24 = .ok (.iconst 1, 1) := by decide +kernel
theorem dX12_row_25 : decode cX12_row 25 = .ok (.isub, 1) := by decide +kernel
theorem dX12_row_26 : decode cX12_row 26 = .ok (.goto 4, 3) := by decide +kernel
theorem dX12_row_29 : decode cX12_row 29 = .ok (.iconst 0, 1) := by decide +kernel
theorem dX12_row_30 : decode cX12_row 30 = .ok (.invokestatic 262, 3) := by decide +kernel
theorem dX12_row_33 : decode cX12_row 33 = .ok (.ifCond .eq 12, 3) := by decide +kernel
theorem dX12_row_36 : decode cX12_row 36 = .ok (.iload_n 3, 1) := by decide +kernel
theorem dX12_row_37 : decode cX12_row 37 = .ok (.iconst 0, 1) := by decide +kernel
theorem dX12_row_38 : decode cX12_row 38 = .ok (.iconst 2, 1) := by decide +kernel
theorem dX12_row_39 : decode cX12_row 39 = .ok (.invokestatic 262, 3) := by decide +kernel
theorem dX12_row_42 : decode cX12_row 42 = .ok (.ifCond .ne 7, 3) := by decide +kernel
theorem dX12_row_45 : decode cX12_row 45 = .ok (.iconst 1, 1) := by decide +kernel
theorem dX12_row_46 : decode cX12_row 46 = .ok (.goto 4, 3) := by decide +kernel
theorem dX12_row_49 : decode cX12_row 49 = .ok (.iconst 0, 1) := by decide +kernel
theorem dX12_row_50 : decode cX12_row 50 = .ok (.invokevirtual 320, 3) := by decide +kernel
theorem dX12_row_53 : decode cX12_row 53 = .ok (.ifCond .eq 5, 3) := by decide +kernel
theorem dX12_row_56 : decode cX12_row 56 = .ok (.iconst 0, 1) := by decide +kernel
theorem dX12_row_57 : decode cX12_row 57 = .ok (.ireturn, 1) := by decide +kernel
theorem dX12_row_58 : decode cX12_row 58 = .ok (.aload_n 0, 1) := by decide +kernel
theorem dX12_row_59 : decode cX12_row 59 = .ok (.invokevirtual 324, 3) := by decide +kernel
theorem dX12_row_62 : decode cX12_row 62 = .ok (.iload_n 3, 1) := by decide +kernel
theorem dX12_row_63 : decode cX12_row 63 = .ok (.ifCond .ne 12, 3) := by decide +kernel
theorem dX12_row_66 : decode cX12_row 66 = .ok (.aload_n 0, 1) := by decide +kernel
theorem dX12_row_67 : decode cX12_row 67 = .ok (.iload_n 1, 1) := by decide +kernel
theorem dX12_row_68 : decode cX12_row 68 = .ok (.iload_n 2, 1) := by decide +kernel
theorem dX12_row_69 : decode cX12_row 69 = .ok (.invokevirtual 472, 3) := by decide +kernel
theorem dX12_row_72 : decode cX12_row 72 = .ok (.goto 23, 3) := by decide +kernel
theorem dX12_row_75 : decode cX12_row 75 = .ok (.iload_n 3, 1) := by decide +kernel
theorem dX12_row_76 : decode cX12_row 76 = .ok (.iconst 1, 1) := by decide +kernel
theorem dX12_row_77 : decode cX12_row 77 = .ok (.if_icmp .ne 12, 3) := by decide +kernel
theorem dX12_row_80 : decode cX12_row 80 = .ok (.aload_n 0, 1) := by decide +kernel
theorem dX12_row_81 : decode cX12_row 81 = .ok (.iload_n 1, 1) := by decide +kernel
theorem dX12_row_82 : decode cX12_row 82 = .ok (.iload_n 2, 1) := by decide +kernel
theorem dX12_row_83 : decode cX12_row 83 = .ok (.invokevirtual 467, 3) := by decide +kernel
theorem dX12_row_86 : decode cX12_row 86 = .ok (.goto 9, 3) := by decide +kernel
theorem dX12_row_89 : decode cX12_row 89 = .ok (.aload_n 0, 1) := by decide +kernel
theorem dX12_row_90 : decode cX12_row 90 = .ok (.iload_n 1, 1) := by decide +kernel
theorem dX12_row_91 : decode cX12_row 91 = .ok (.iload_n 2, 1) := by decide +kernel
theorem dX12_row_92 : decode cX12_row 92 = .ok (.invokevirtual 484, 3) := by decide +kernel
theorem dX12_row_95 : decode cX12_row 95 = .ok (.ireturn, 1) := by decide +kernel
theorem dX12_inPack_0 : decode cX12_inPack 0 = .ok (.aload_n 0, 1) := by decide +kernel
theorem dX12_inPack_1 : decode cX12_inPack 1 = .ok (.iconst 0, 1) := by decide +kernel
theorem dX12_inPack_2 : decode cX12_inPack 2 = .ok (.putfield 1, 3) := by decide +kernel
theorem dX12_inPack_5 : decode cX12_inPack 5 = .ok (.aload_n 0, 1) := by decide +kernel
theorem dX12_inPack_6 : decode cX12_inPack 6 = .ok (.iload_n 1, 1) := by decide +kernel
theorem dX12_inPack_7 : decode cX12_inPack 7 = .ok (.invokevirtual 478, 3) := by decide +kernel
theorem dX12_inPack_10 : decode cX12_inPack 10 = .ok (.ifCond .eq 45, 3) := by decide +kernel
theorem dX12_inPack_13 : decode cX12_inPack 13 = .ok (.iload_n 2, 1) := by decide +kernel
theorem dX12_inPack_14 : decode cX12_inPack 14 = .ok (.iconst 0, 1) := by decide +kernel
theorem dX12_inPack_15 : decode cX12_inPack 15 = .ok (.aload_n 0, 1) := by decide +kernel
theorem dX12_inPack_16 : decode cX12_inPack 16 = .ok (.getfield 33, 3) := by decide +kernel
theorem dX12_inPack_19 : decode cX12_inPack 19 = .ok (.sipush 1677, 3) := by decide +kernel
theorem dX12_inPack_22 : decode cX12_inPack 22 = .ok (.iconst 3, 1) := by decide +kernel
theorem dX12_inPack_23 : decode cX12_inPack 23 = .ok (.iload_n 1, 1) := by decide +kernel
theorem dX12_inPack_24 : decode cX12_inPack 24 = .ok (.imul, 1) := by decide +kernel
theorem dX12_inPack_25 : decode cX12_inPack 25 = .ok (.iadd, 1) := by decide +kernel
theorem dX12_inPack_26 : decode cX12_inPack 26 = .ok (.iconst 2, 1) := by decide +kernel
theorem dX12_inPack_27 : decode cX12_inPack 27 = .ok (.iadd, 1) := by decide +kernel
theorem dX12_inPack_28 : decode cX12_inPack 28 = .ok (.iaload, 1) := by decide +kernel
theorem dX12_inPack_29 : decode cX12_inPack 29 = .ok (.iconst 1, 1) := by decide +kernel
theorem dX12_inPack_30 : decode cX12_inPack 30 = .ok (.isub, 1) := by decide +kernel
theorem dX12_inPack_31 : decode cX12_inPack 31 = .ok (.invokestatic 262, 3) := by decide +kernel
theorem dX12_inPack_34 : decode cX12_inPack 34 = .ok (.ifCond .eq 21, 3) := by decide +kernel
theorem dX12_inPack_37 : decode cX12_inPack 37 = .ok (.aload_n 0, 1) := by decide +kernel
theorem dX12_inPack_38 : decode cX12_inPack 38 = .ok (.getfield 33, 3) := by decide +kernel
theorem dX12_inPack_41 : decode cX12_inPack 41 = .ok (.sipush 2107, 3) := by decide +kernel
theorem dX12_inPack_44 : decode cX12_inPack 44 = .ok (.bipush 40, 2) := by decide +kernel
theorem dX12_inPack_46 : decode cX12_inPack 46 = .ok (.iload_n 1, 1) := by decide +kernel
theorem dX12_inPack_47 : decode cX12_inPack 47 = .ok (.imul, 1) := by decide +kernel
theorem dX12_inPack_48 : decode cX12_inPack 48 = .ok (.iadd, 1) := by decide +kernel
theorem dX12_inPack_49 : decode cX12_inPack 49 = .ok (.iload_n 2, 1) := by decide +kernel
theorem dX12_inPack_50 : decode cX12_inPack 50 = .ok (.iadd, 1) := by decide +kernel
theorem dX12_inPack_51 : decode cX12_inPack 51 = .ok (.iaload, 1) := by decide +kernel
theorem dX12_inPack_52 : decode cX12_inPack 52 = .ok (.goto 4, 3) := by decide +kernel
theorem dX12_inPack_55 : decode cX12_inPack 55 = .ok (.iconst (-1), 1) := by decide +kernel
theorem dX12_inPack_56 : decode cX12_inPack 56 = .ok (.ireturn, 1) := by decide +kernel
theorem dX12_endOf_0 : decode cX12_endOf 0 = .ok (.iconst 0, 1) := by decide +kernel
theorem dX12_endOf_1 : decode cX12_endOf 1 = .ok (.istore_n 2, 1) := by decide +kernel
theorem dX12_endOf_2 : decode cX12_endOf 2 = .ok (.iconst 1, 1) := by decide +kernel
theorem dX12_endOf_3 : decode cX12_endOf 3 = .ok (.istore_n 3, 1) := by decide +kernel
theorem dX12_endOf_4 : decode cX12_endOf 4 = .ok (.iload_n 3, 1) := by decide +kernel
theorem dX12_endOf_5 : decode cX12_endOf 5 = .ok (.aload_n 0, 1) := by decide +kernel
theorem dX12_endOf_6 : decode cX12_endOf 6 = .ok (.iload_n 1, 1) := by decide +kernel
theorem dX12_endOf_7 : decode cX12_endOf 7 = .ok (.invokevirtual 481, 3) := by decide +kernel
theorem dX12_endOf_10 : decode cX12_endOf 10 = .ok (.if_icmp .ge 30, 3) := by decide +kernel
theorem dX12_endOf_13 : decode cX12_endOf 13 = .ok (.aload_n 0, 1) := by decide +kernel
theorem dX12_endOf_14 : decode cX12_endOf 14 = .ok (.iload_n 1, 1) := by decide +kernel
theorem dX12_endOf_15 : decode cX12_endOf 15 = .ok (.iload_n 3, 1) := by decide +kernel
theorem dX12_endOf_16 : decode cX12_endOf 16 = .ok (.invokevirtual 484, 3) := by decide +kernel
theorem dX12_endOf_19 : decode cX12_endOf 19 = .ok (.aload_n 0, 1) := by decide +kernel
theorem dX12_endOf_20 : decode cX12_endOf 20 = .ok (.iload_n 1, 1) := by decide +kernel
theorem dX12_endOf_21 : decode cX12_endOf 21 = .ok (.iload_n 2, 1) := by decide +kernel
theorem dX12_endOf_22 : decode cX12_endOf 22 = .ok (.invokevirtual 484, 3) := by decide +kernel
theorem dX12_endOf_25 : decode cX12_endOf 25 = .ok (.if_icmp .ge 7, 3) := by decide +kernel
theorem dX12_endOf_28 : decode cX12_endOf 28 = .ok (.iload_n 3, 1) := by decide +kernel
theorem dX12_endOf_29 : decode cX12_endOf 29 = .ok (.goto 4, 3) := by decide +kernel
theorem dX12_endOf_32 : decode cX12_endOf 32 = .ok (.iload_n 2, 1) := by decide +kernel
theorem dX12_endOf_33 : decode cX12_endOf 33 = .ok (.istore_n 2, 1) := by decide +kernel
theorem dX12_endOf_34 : decode cX12_endOf 34 = .ok (.iinc 3 1, 3) := by decide +kernel
theorem dX12_endOf_37 : decode cX12_endOf 37 = .ok (.goto (-33), 3) := by decide +kernel
theorem dX12_endOf_40 : decode cX12_endOf 40 = .ok (.iload_n 2, 1) := by decide +kernel
theorem dX12_endOf_41 : decode cX12_endOf 41 = .ok (.ireturn, 1) := by decide +kernel
theorem dX12_life_0 : decode cX12_life 0 = .ok (.aload_n 0, 1) := by decide +kernel
theorem dX12_life_1 : decode cX12_life 1 = .ok (.iconst 0, 1) := by decide +kernel
theorem dX12_life_2 : decode cX12_life 2 = .ok (.putfield 1, 3) := by decide +kernel
theorem dX12_life_5 : decode cX12_life 5 = .ok (.aload_n 0, 1) := by decide +kernel
theorem dX12_life_6 : decode cX12_life 6 = .ok (.iload_n 1, 1) := by decide +kernel
theorem dX12_life_7 : decode cX12_life 7 = .ok (.invokevirtual 478, 3) := by decide +kernel
theorem dX12_life_10 : decode cX12_life 10 = .ok (.ifCond .ne 5, 3) := by decide +kernel
theorem dX12_life_13 : decode cX12_life 13 = .ok (.iconst (-1), 1) := by decide +kernel
theorem dX12_life_14 : decode cX12_life 14 = .ok (.ireturn, 1) := by decide +kernel
theorem dX12_life_15 : decode cX12_life 15 = .ok (.aload_n 0, 1) := by decide +kernel
theorem dX12_life_16 : decode cX12_life 16 = .ok (.invokevirtual 324, 3) := by decide +kernel
theorem dX12_life_19 : decode cX12_life 19 = .ok (.aload_n 0, 1) := by decide +kernel
theorem dX12_life_20 : decode cX12_life 20 = .ok (.iload_n 1, 1) := by decide +kernel
theorem dX12_life_21 : decode cX12_life 21 = .ok (.aload_n 0, 1) := by decide +kernel
theorem dX12_life_22 : decode cX12_life 22 = .ok (.iload_n 1, 1) := by decide +kernel
theorem dX12_life_23 : decode cX12_life 23 = .ok (.invokevirtual 487, 3) := by decide +kernel
theorem dX12_life_26 : decode cX12_life 26 = .ok (.invokevirtual 484, 3) := by decide +kernel
theorem dX12_life_29 : decode cX12_life 29 = .ok (.ireturn, 1) := by decide +kernel
theorem dX12_ends_0 : decode cX12_ends 0 = .ok (.aload_n 0, 1) := by decide +kernel
theorem dX12_ends_1 : decode cX12_ends 1 = .ok (.iconst 0, 1) := by decide +kernel
theorem dX12_ends_2 : decode cX12_ends 2 = .ok (.putfield 1, 3) := by decide +kernel
theorem dX12_ends_5 : decode cX12_ends 5 = .ok (.aload_n 0, 1) := by decide +kernel
theorem dX12_ends_6 : decode cX12_ends 6 = .ok (.iload_n 1, 1) := by decide +kernel
theorem dX12_ends_7 : decode cX12_ends 7 = .ok (.invokevirtual 478, 3) := by decide +kernel
theorem dX12_ends_10 : decode cX12_ends 10 = .ok (.ifCond .ne 5, 3) := by decide +kernel
theorem dX12_ends_13 : decode cX12_ends 13 = .ok (.iconst (-1), 1) := by decide +kernel
theorem dX12_ends_14 : decode cX12_ends 14 = .ok (.ireturn, 1) := by decide +kernel
theorem dX12_ends_15 : decode cX12_ends 15 = .ok (.aload_n 0, 1) := by decide +kernel
theorem dX12_ends_16 : decode cX12_ends 16 = .ok (.invokevirtual 324, 3) := by decide +kernel
theorem dX12_ends_19 : decode cX12_ends 19 = .ok (.aload_n 0, 1) := by decide +kernel
theorem dX12_ends_20 : decode cX12_ends 20 = .ok (.iload_n 1, 1) := by decide +kernel
theorem dX12_ends_21 : decode cX12_ends 21 = .ok (.invokevirtual 487, 3) := by decide +kernel
theorem dX12_ends_24 : decode cX12_ends 24 = .ok (.ireturn, 1) := by decide +kernel
theorem dX12_placeOf_0 : decode cX12_placeOf 0 = .ok (.iconst 0, 1) := by decide +kernel
theorem dX12_placeOf_1 : decode cX12_placeOf 1 = .ok (.istore_n 3, 1) := by decide +kernel
theorem dX12_placeOf_2 : decode cX12_placeOf 2 = .ok (.iload_n 3, 1) := by decide +kernel
theorem dX12_placeOf_3 : decode cX12_placeOf 3 = .ok (.aload_n 0, 1) := by decide +kernel
theorem dX12_placeOf_4 : decode cX12_placeOf 4 = .ok (.getfield 33, 3) := by decide +kernel
theorem dX12_placeOf_7 : decode cX12_placeOf 7 = .ok (.sipush 1677, 3) := by decide +kernel
theorem dX12_placeOf_10 : decode cX12_placeOf 10 = .ok (.iconst 3, 1) := by decide +kernel
theorem dX12_placeOf_11 : decode cX12_placeOf 11 = .ok (.iload_n 1, 1) := by decide +kernel
theorem dX12_placeOf_12 : decode cX12_placeOf 12 = .ok (.imul, 1) := by decide +kernel
theorem dX12_placeOf_13 : decode cX12_placeOf 13 = .ok (.iadd, 1) := by decide +kernel
theorem dX12_placeOf_14 : decode cX12_placeOf 14 = .ok (.iconst 2, 1) := by decide +kernel
theorem dX12_placeOf_15 : decode cX12_placeOf 15 = .ok (.iadd, 1) := by decide +kernel
theorem dX12_placeOf_16 : decode cX12_placeOf 16 = .ok (.iaload, 1) := by decide +kernel
theorem dX12_placeOf_17 : decode cX12_placeOf 17 = .ok (.if_icmp .ge 30, 3) := by decide +kernel
theorem dX12_placeOf_20 : decode cX12_placeOf 20 = .ok (.aload_n 0, 1) := by decide +kernel
theorem dX12_placeOf_21 : decode cX12_placeOf 21 = .ok (.getfield 33, 3) := by decide +kernel
theorem dX12_placeOf_24 : decode cX12_placeOf 24 = .ok (.sipush 2107, 3) := by decide +kernel
theorem dX12_placeOf_27 : decode cX12_placeOf 27 = .ok (.bipush 40, 2) := by decide +kernel
theorem dX12_placeOf_29 : decode cX12_placeOf 29 = .ok (.iload_n 1, 1) := by decide +kernel
theorem dX12_placeOf_30 : decode cX12_placeOf 30 = .ok (.imul, 1) := by decide +kernel
theorem dX12_placeOf_31 : decode cX12_placeOf 31 = .ok (.iadd, 1) := by decide +kernel
theorem dX12_placeOf_32 : decode cX12_placeOf 32 = .ok (.iload_n 3, 1) := by decide +kernel
theorem dX12_placeOf_33 : decode cX12_placeOf 33 = .ok (.iadd, 1) := by decide +kernel
theorem dX12_placeOf_34 : decode cX12_placeOf 34 = .ok (.iaload, 1) := by decide +kernel
theorem dX12_placeOf_35 : decode cX12_placeOf 35 = .ok (.iload_n 2, 1) := by decide +kernel
theorem dX12_placeOf_36 : decode cX12_placeOf 36 = .ok (.if_icmp .ne 5, 3) := by decide +kernel
theorem dX12_placeOf_39 : decode cX12_placeOf 39 = .ok (.iload_n 3, 1) := by decide +kernel
theorem dX12_placeOf_40 : decode cX12_placeOf 40 = .ok (.ireturn, 1) := by decide +kernel
theorem dX12_placeOf_41 : decode cX12_placeOf 41 = .ok (.iinc 3 1, 3) := by decide +kernel
theorem dX12_placeOf_44 : decode cX12_placeOf 44 = .ok (.goto (-42), 3) := by decide +kernel
theorem dX12_placeOf_47 : decode cX12_placeOf 47 = .ok (.iconst (-1), 1) := by decide +kernel
theorem dX12_placeOf_48 : decode cX12_placeOf 48 = .ok (.ireturn, 1) := by decide +kernel
theorem dX12_lastDay_0 : decode cX12_lastDay 0 = .ok (.aload_n 0, 1) := by decide +kernel
theorem dX12_lastDay_1 : decode cX12_lastDay 1 = .ok (.getfield 33, 3) := by decide +kernel
theorem dX12_lastDay_4 : decode cX12_lastDay 4 = .ok (.sipush 1677, 3) := by decide +kernel
theorem dX12_lastDay_7 : decode cX12_lastDay 7 = .ok (.iconst 3, 1) := by decide +kernel
theorem dX12_lastDay_8 : decode cX12_lastDay 8 = .ok (.iload_n 1, 1) := by decide +kernel
theorem dX12_lastDay_9 : decode cX12_lastDay 9 = .ok (.imul, 1) := by decide +kernel
theorem dX12_lastDay_10 : decode cX12_lastDay 10 = .ok (.iadd, 1) := by decide +kernel
theorem dX12_lastDay_11 : decode cX12_lastDay 11 = .ok (.iaload, 1) := by decide +kernel
theorem dX12_lastDay_12 : decode cX12_lastDay 12 = .ok (.istore_n 2, 1) := by decide +kernel
theorem dX12_lastDay_13 : decode cX12_lastDay 13 = .ok (.iconst 0, 1) := by decide +kernel
theorem dX12_lastDay_14 : decode cX12_lastDay 14 = .ok (.istore_n 3, 1) := by decide +kernel
theorem dX12_lastDay_15 : decode cX12_lastDay 15 = .ok (.iload_n 3, 1) := by decide +kernel
theorem dX12_lastDay_16 : decode cX12_lastDay 16 = .ok (.aload_n 0, 1) := by decide +kernel
theorem dX12_lastDay_17 : decode cX12_lastDay 17 = .ok (.getfield 33, 3) := by decide +kernel
theorem dX12_lastDay_20 : decode cX12_lastDay 20 = .ok (.bipush 15, 2) := by decide +kernel
theorem dX12_lastDay_22 : decode cX12_lastDay 22 = .ok (.iaload, 1) := by decide +kernel
theorem dX12_lastDay_23 : decode cX12_lastDay 23 = .ok (.if_icmp .ge 44, 3) := by decide +kernel
theorem dX12_lastDay_26 : decode cX12_lastDay 26 = .ok (.aload_n 0, 1) := by decide +kernel
theorem dX12_lastDay_27 : decode cX12_lastDay 27 = .ok (.getfield 33, 3) := by decide +kernel
theorem dX12_lastDay_30 : decode cX12_lastDay 30 = .ok (.sipush 2507, 3) := by decide +kernel
theorem dX12_lastDay_33 : decode cX12_lastDay 33 = .ok (.iconst 4, 1) := by decide +kernel
theorem dX12_lastDay_34 : decode cX12_lastDay 34 = .ok (.iload_n 3, 1) := by decide +kernel
theorem dX12_lastDay_35 : decode cX12_lastDay 35 = .ok (.imul, 1) := by decide +kernel
theorem dX12_lastDay_36 : decode cX12_lastDay 36 = .ok (.iadd, 1) := by decide +kernel
theorem dX12_lastDay_37 : decode cX12_lastDay 37 = .ok (.iaload, 1) := by decide +kernel
theorem dX12_lastDay_38 : decode cX12_lastDay 38 = .ok (.iload_n 1, 1) := by decide +kernel
theorem dX12_lastDay_39 : decode cX12_lastDay 39 = .ok (.if_icmp .ne 20, 3) := by decide +kernel
theorem dX12_lastDay_42 : decode cX12_lastDay 42 = .ok (.aload_n 0, 1) := by decide +kernel
theorem dX12_lastDay_43 : decode cX12_lastDay 43 = .ok (.getfield 33, 3) := by decide +kernel
theorem dX12_lastDay_46 : decode cX12_lastDay 46 = .ok (.sipush 2507, 3) := by decide +kernel
theorem dX12_lastDay_49 : decode cX12_lastDay 49 = .ok (.iconst 4, 1) := by decide +kernel
theorem dX12_lastDay_50 : decode cX12_lastDay 50 = .ok (.iload_n 3, 1) := by decide +kernel
theorem dX12_lastDay_51 : decode cX12_lastDay 51 = .ok (.imul, 1) := by decide +kernel
theorem dX12_lastDay_52 : decode cX12_lastDay 52 = .ok (.iadd, 1) := by decide +kernel
theorem dX12_lastDay_53 : decode cX12_lastDay 53 = .ok (.iconst 3, 1) := by decide +kernel
theorem dX12_lastDay_54 : decode cX12_lastDay 54 = .ok (.iadd, 1) := by decide +kernel
theorem dX12_lastDay_55 : decode cX12_lastDay 55 = .ok (.iaload, 1) := by decide +kernel
theorem dX12_lastDay_56 : decode cX12_lastDay 56 = .ok (.goto 4, 3) := by decide +kernel
theorem dX12_lastDay_59 : decode cX12_lastDay 59 = .ok (.iload_n 2, 1) := by decide +kernel
theorem dX12_lastDay_60 : decode cX12_lastDay 60 = .ok (.istore_n 2, 1) := by decide +kernel
theorem dX12_lastDay_61 : decode cX12_lastDay 61 = .ok (.iinc 3 1, 3) := by decide +kernel
theorem dX12_lastDay_64 : decode cX12_lastDay 64 = .ok (.goto (-49), 3) := by decide +kernel
theorem dX12_lastDay_67 : decode cX12_lastDay 67 = .ok (.iload_n 2, 1) := by decide +kernel
theorem dX12_lastDay_68 : decode cX12_lastDay 68 = .ok (.ireturn, 1) := by decide +kernel
theorem dX12_mend_0 : decode cX12_mend 0 = .ok (.aload_n 0, 1) := by decide +kernel
theorem dX12_mend_1 : decode cX12_mend 1 = .ok (.iconst 0, 1) := by decide +kernel
theorem dX12_mend_2 : decode cX12_mend 2 = .ok (.putfield 1, 3) := by decide +kernel
theorem dX12_mend_5 : decode cX12_mend 5 = .ok (.aload_n 0, 1) := by decide +kernel
theorem dX12_mend_6 : decode cX12_mend 6 = .ok (.getfield 33, 3) := by decide +kernel
theorem dX12_mend_9 : decode cX12_mend 9 = .ok (.bipush 15, 2) := by decide +kernel
theorem dX12_mend_11 : decode cX12_mend 11 = .ok (.iaload, 1) := by decide +kernel
theorem dX12_mend_12 : decode cX12_mend 12 = .ok (.bipush 30, 2) := by decide +kernel
theorem dX12_mend_14 : decode cX12_mend 14 = .ok (.if_icmp .eq 44, 3) := by decide +kernel
theorem dX12_mend_17 : decode cX12_mend 17 = .ok (.aload_n 0, 1) := by decide +kernel
theorem dX12_mend_18 : decode cX12_mend 18 = .ok (.iload_n 1, 1) := by decide +kernel
theorem dX12_mend_19 : decode cX12_mend 19 = .ok (.invokevirtual 478, 3) := by decide +kernel
theorem dX12_mend_22 : decode cX12_mend 22 = .ok (.ifCond .eq 36, 3) := by decide +kernel
theorem dX12_mend_25 : decode cX12_mend 25 = .ok (.aload_n 0, 1) := by decide +kernel
theorem dX12_mend_26 : decode cX12_mend 26 = .ok (.iload_n 3, 1) := by decide +kernel
theorem dX12_mend_27 : decode cX12_mend 27 = .ok (.invokevirtual 304, 3) := by decide +kernel
theorem dX12_mend_30 : decode cX12_mend 30 = .ok (.ifCond .eq 28, 3) := by decide +kernel
theorem dX12_mend_33 : decode cX12_mend 33 = .ok (.aload_n 0, 1) := by decide +kernel
theorem dX12_mend_34 : decode cX12_mend 34 = .ok (.iload_n 1, 1) := by decide +kernel
theorem dX12_mend_35 : decode cX12_mend 35 = .ok (.iload_n 2, 1) := by decide +kernel
theorem dX12_mend_36 : decode cX12_mend 36 = .ok (.invokevirtual 490, 3) := by decide +kernel
theorem dX12_mend_39 : decode cX12_mend 39 = .ok (.ifCond .lt 19, 3) := by decide +kernel
theorem dX12_mend_42 : decode cX12_mend 42 = .ok (.iload 4, 2) := by decide +kernel
theorem dX12_mend_44 : decode cX12_mend 44 = .ok (.aload_n 0, 1) := by decide +kernel
theorem dX12_mend_45 : decode cX12_mend 45 = .ok (.iload_n 1, 1) := by decide +kernel
theorem dX12_mend_46 : decode cX12_mend 46 = .ok (.invokevirtual 493, 3) := by decide +kernel
theorem dX12_mend_49 : decode cX12_mend 49 = .ok (.sipush 999, 3) := by decide +kernel
theorem dX12_mend_52 : decode cX12_mend 52 = .ok (.invokestatic 262, 3) := by decide +kernel
theorem dX12_mend_55 : decode cX12_mend 55 = .ok (.ifCond .ne 5, 3) := by decide +kernel
theorem dX12_mend_58 : decode cX12_mend 58 = .ok (.iconst 0, 1) := by decide +kernel
theorem dX12_mend_59 : decode cX12_mend 59 = .ok (.ireturn, 1) := by decide +kernel
theorem dX12_mend_60 : decode cX12_mend 60 = .ok (.aload_n 0, 1) := by decide +kernel
theorem dX12_mend_61 : decode cX12_mend 61 = .ok (.invokevirtual 324, 3) := by decide +kernel
theorem dX12_mend_64 : decode cX12_mend 64 = .ok (.aload_n 0, 1) := by decide +kernel
theorem dX12_mend_65 : decode cX12_mend 65 = .ok (.getfield 66, 3) := by decide +kernel
theorem dX12_mend_68 : decode cX12_mend 68 = .ok (.iload_n 3, 1) := by decide +kernel
theorem dX12_mend_69 : decode cX12_mend 69 = .ok (.iaload, 1) := by decide +kernel
theorem dX12_mend_70 : decode cX12_mend 70 = .ok (.ifCond .eq 11, 3) := by decide +kernel
theorem dX12_mend_73 : decode cX12_mend 73 = .ok (.aload_n 0, 1) := by decide +kernel
theorem dX12_mend_74 : decode cX12_mend 74 = .ok (.iload_n 3, 1) := by decide +kernel
theorem dX12_mend_75 : decode cX12_mend 75 = .ok (.invokevirtual 332, 3) := by decide +kernel
theorem dX12_mend_78 : decode cX12_mend 78 = .ok (.ifCond .lt 5, 3) := by decide +kernel
theorem dX12_mend_81 : decode cX12_mend 81 = .ok (.iconst 0, 1) := by decide +kernel
theorem dX12_mend_82 : decode cX12_mend 82 = .ok (.ireturn, 1) := by decide +kernel
theorem dX12_mend_83 : decode cX12_mend 83 = .ok (.sipush 2507, 3) := by decide +kernel
theorem dX12_mend_86 : decode cX12_mend 86 = .ok (.iconst 4, 1) := by decide +kernel
theorem dX12_mend_87 : decode cX12_mend 87 = .ok (.aload_n 0, 1) := by decide +kernel
theorem dX12_mend_88 : decode cX12_mend 88 = .ok (.getfield 33, 3) := by decide +kernel
theorem dX12_mend_91 : decode cX12_mend 91 = .ok (.bipush 15, 2) := by decide +kernel
theorem dX12_mend_93 : decode cX12_mend 93 = .ok (.iaload, 1) := by decide +kernel
theorem dX12_mend_94 : decode cX12_mend 94 = .ok (.imul, 1) := by decide +kernel
theorem dX12_mend_95 : decode cX12_mend 95 = .ok (.iadd, 1) := by decide +kernel
theorem dX12_mend_96 : decode cX12_mend 96 = .ok (.istore 5, 2) := by decide +kernel
theorem dX12_mend_98 : decode cX12_mend 98 = .ok (.aload_n 0, 1) := by decide +kernel
theorem dX12_mend_99 : decode cX12_mend 99 = .ok (.getfield 33, 3) := by decide +kernel
theorem dX12_mend_102 : decode cX12_mend 102 = .ok (.iload 5, 2) := by decide +kernel
theorem dX12_mend_104 : decode cX12_mend 104 = .ok (.iload_n 1, 1) := by decide +kernel
theorem dX12_mend_105 : decode cX12_mend 105 = .ok (.iastore, 1) := by decide +kernel
theorem dX12_mend_106 : decode cX12_mend 106 = .ok (.aload_n 0, 1) := by decide +kernel
theorem dX12_mend_107 : decode cX12_mend 107 = .ok (.getfield 33, 3) := by decide +kernel
theorem dX12_mend_110 : decode cX12_mend 110 = .ok (.iload 5, 2) := by decide +kernel
theorem dX12_mend_112 : decode cX12_mend 112 = .ok (.iconst 1, 1) := by decide +kernel
theorem dX12_mend_113 : decode cX12_mend 113 = .ok (.iadd, 1) := by decide +kernel
theorem dX12_mend_114 : decode cX12_mend 114 = .ok (.aload_n 0, 1) := by decide +kernel
theorem dX12_mend_115 : decode cX12_mend 115 = .ok (.iload_n 1, 1) := by decide +kernel
theorem dX12_mend_116 : decode cX12_mend 116 = .ok (.iload_n 2, 1) := by decide +kernel
theorem dX12_mend_117 : decode cX12_mend 117 = .ok (.invokevirtual 490, 3) := by decide +kernel
theorem dX12_mend_120 : decode cX12_mend 120 = .ok (.iastore, 1) := by decide +kernel
theorem dX12_mend_121 : decode cX12_mend 121 = .ok (.aload_n 0, 1) := by decide +kernel
theorem dX12_mend_122 : decode cX12_mend 122 = .ok (.getfield 33, 3) := by decide +kernel
theorem dX12_mend_125 : decode cX12_mend 125 = .ok (.iload 5, 2) := by decide +kernel
theorem dX12_mend_127 : decode cX12_mend 127 = .ok (.iconst 2, 1) := by decide +kernel
theorem dX12_mend_128 : decode cX12_mend 128 = .ok (.iadd, 1) := by decide +kernel
theorem dX12_mend_129 : decode cX12_mend 129 = .ok (.iload_n 3, 1) := by decide +kernel
theorem dX12_mend_130 : decode cX12_mend 130 = .ok (.iastore, 1) := by decide +kernel
theorem dX12_mend_131 : decode cX12_mend 131 = .ok (.aload_n 0, 1) := by decide +kernel
theorem dX12_mend_132 : decode cX12_mend 132 = .ok (.getfield 33, 3) := by decide +kernel
theorem dX12_mend_135 : decode cX12_mend 135 = .ok (.iload 5, 2) := by decide +kernel
theorem dX12_mend_137 : decode cX12_mend 137 = .ok (.iconst 3, 1) := by decide +kernel
theorem dX12_mend_138 : decode cX12_mend 138 = .ok (.iadd, 1) := by decide +kernel
theorem dX12_mend_139 : decode cX12_mend 139 = .ok (.iload 4, 2) := by decide +kernel
theorem dX12_mend_141 : decode cX12_mend 141 = .ok (.iastore, 1) := by decide +kernel
theorem dX12_mend_142 : decode cX12_mend 142 = .ok (.aload_n 0, 1) := by decide +kernel
theorem dX12_mend_143 : decode cX12_mend 143 = .ok (.getfield 33, 3) := by decide +kernel
theorem dX12_mend_146 : decode cX12_mend 146 = .ok (.sipush 2107, 3) := by decide +kernel
theorem dX12_mend_149 : decode cX12_mend 149 = .ok (.bipush 40, 2) := by decide +kernel
theorem dX12_mend_151 : decode cX12_mend 151 = .ok (.iload_n 1, 1) := by decide +kernel
theorem dX12_mend_152 : decode cX12_mend 152 = .ok (.imul, 1) := by decide +kernel
theorem dX12_mend_153 : decode cX12_mend 153 = .ok (.iadd, 1) := by decide +kernel
theorem dX12_mend_154 : decode cX12_mend 154 = .ok (.aload_n 0, 1) := by decide +kernel
theorem dX12_mend_155 : decode cX12_mend 155 = .ok (.iload_n 1, 1) := by decide +kernel
theorem dX12_mend_156 : decode cX12_mend 156 = .ok (.iload_n 2, 1) := by decide +kernel
theorem dX12_mend_157 : decode cX12_mend 157 = .ok (.invokevirtual 490, 3) := by decide +kernel
theorem dX12_mend_160 : decode cX12_mend 160 = .ok (.iadd, 1) := by decide +kernel
theorem dX12_mend_161 : decode cX12_mend 161 = .ok (.iload_n 3, 1) := by decide +kernel
theorem dX12_mend_162 : decode cX12_mend 162 = .ok (.iastore, 1) := by decide +kernel
theorem dX12_mend_163 : decode cX12_mend 163 = .ok (.aload_n 0, 1) := by decide +kernel
theorem dX12_mend_164 : decode cX12_mend 164 = .ok (.getfield 33, 3) := by decide +kernel
theorem dX12_mend_167 : decode cX12_mend 167 = .ok (.bipush 15, 2) := by decide +kernel
theorem dX12_mend_169 : decode cX12_mend 169 = .ok (.dup2, 1) := by decide +kernel
theorem dX12_mend_170 : decode cX12_mend 170 = .ok (.iaload, 1) := by decide +kernel
theorem dX12_mend_171 : decode cX12_mend 171 = .ok (.iconst 1, 1) := by decide +kernel
theorem dX12_mend_172 : decode cX12_mend 172 = .ok (.iadd, 1) := by decide +kernel
theorem dX12_mend_173 : decode cX12_mend 173 = .ok (.iastore, 1) := by decide +kernel
theorem dX12_mend_174 : decode cX12_mend 174 = .ok (.iconst 1, 1) := by decide +kernel
theorem dX12_mend_175 : decode cX12_mend 175 = .ok (.ireturn, 1) := by decide +kernel
theorem dX12_bestMend_0 : decode cX12_bestMend 0 = .ok (.aload_n 0, 1) := by decide +kernel
theorem dX12_bestMend_1 : decode cX12_bestMend 1 = .ok (.iconst 0, 1) := by decide +kernel
theorem dX12_bestMend_2 : decode cX12_bestMend 2 = .ok (.putfield 1, 3) := by decide +kernel
theorem dX12_bestMend_5 : decode cX12_bestMend 5 = .ok (.aload_n 0, 1) := by decide +kernel
theorem dX12_bestMend_6 : decode cX12_bestMend 6 = .ok (.sipush 540, 3) := by decide +kernel
theorem dX12_bestMend_9 : decode cX12_bestMend 9 = .ok (.invokevirtual 292, 3) := by decide +kernel
theorem dX12_bestMend_12 : decode cX12_bestMend 12 = .ok (.aload_n 0, 1) := by decide +kernel
theorem dX12_bestMend_13 : decode cX12_bestMend 13 = .ok (.iload_n 1, 1) := by decide +kernel
theorem dX12_bestMend_14 : decode cX12_bestMend 14 = .ok (.invokevirtual 478, 3) := by decide +kernel
theorem dX12_bestMend_17 : decode cX12_bestMend 17 = .ok (.ifCond .eq 13, 3) := by decide +kernel
theorem dX12_bestMend_20 : decode cX12_bestMend 20 = .ok (.aload_n 0, 1) := by decide +kernel
theorem dX12_bestMend_21 : decode cX12_bestMend 21 = .ok (.iconst 1, 1) := by decide +kernel
theorem dX12_bestMend_22 : decode cX12_bestMend 22 = .ok (.bipush 10, 2) := by decide +kernel
theorem dX12_bestMend_24 : decode cX12_bestMend 24 = .ok (.invokevirtual 412, 3) := by decide +kernel
theorem dX12_bestMend_27 : decode cX12_bestMend 27 = .ok (.ifCond .ne 5, 3) := by decide +kernel
theorem dX12_bestMend_30 : decode cX12_bestMend 30 = .ok (.iconst (-1), 1) := by decide +kernel
theorem dX12_bestMend_31 : decode cX12_bestMend 31 = .ok (.ireturn, 1) := by decide +kernel
theorem dX12_bestMend_32 : decode cX12_bestMend 32 = .ok (.iconst 0, 1) := by decide +kernel
theorem dX12_bestMend_33 : decode cX12_bestMend 33 = .ok (.istore_n 2, 1) := by decide +kernel
theorem dX12_bestMend_34 : decode cX12_bestMend 34 = .ok (.iload_n 2, 1) := by decide +kernel
theorem dX12_bestMend_35 : decode cX12_bestMend 35 = .ok (.aload_n 0, 1) := by decide +kernel
theorem dX12_bestMend_36 : decode cX12_bestMend 36 = .ok (.getfield 397, 3) := by decide +kernel
theorem dX12_bestMend_39 : decode cX12_bestMend 39 = .ok (.if_icmp .ge 24, 3) := by decide +kernel
theorem dX12_bestMend_42 : decode cX12_bestMend 42 = .ok (.aload_n 0, 1) := by decide +kernel
theorem dX12_bestMend_43 : decode cX12_bestMend 43 = .ok (.aload_n 0, 1) := by decide +kernel
theorem dX12_bestMend_44 : decode cX12_bestMend 44 = .ok (.getfield 81, 3) := by decide +kernel
theorem dX12_bestMend_47 : decode cX12_bestMend 47 = .ok (.iload_n 2, 1) := by decide +kernel
theorem dX12_bestMend_48 : decode cX12_bestMend 48 = .ok (.iaload, 1) := by decide +kernel
theorem dX12_bestMend_49 : decode cX12_bestMend 49 = .ok (.invokevirtual 332, 3) := by decide +kernel
theorem dX12_bestMend_52 : decode cX12_bestMend 52 = .ok (.ifCond .lt 5, 3) := by decide +kernel
theorem dX12_bestMend_55 : decode cX12_bestMend 55 = .ok (.iconst (-1), 1) := by decide +kernel
theorem dX12_bestMend_56 : decode cX12_bestMend 56 = .ok (.ireturn, 1) := by decide +kernel
theorem dX12_bestMend_57 : decode cX12_bestMend 57 = .ok (.iinc 2 1, 3) := by decide +kernel
theorem dX12_bestMend_60 : decode cX12_bestMend 60 = .ok (.goto (-26), 3) := by decide +kernel
theorem dX12_bestMend_63 : decode cX12_bestMend 63 = .ok (.iconst (-1), 1) := by decide +kernel
theorem dX12_bestMend_64 : decode cX12_bestMend 64 = .ok (.istore_n 2, 1) := by decide +kernel
theorem dX12_bestMend_65 : decode cX12_bestMend 65 = .ok (.iconst 0, 1) := by decide +kernel
theorem dX12_bestMend_66 : decode cX12_bestMend 66 = .ok (.istore_n 3, 1) := by decide +kernel
theorem dX12_bestMend_67 : decode cX12_bestMend 67 = .ok (.iload_n 3, 1) := by decide +kernel
theorem dX12_bestMend_68 : decode cX12_bestMend 68 = .ok (.aload_n 0, 1) := by decide +kernel
theorem dX12_bestMend_69 : decode cX12_bestMend 69 = .ok (.getfield 33, 3) := by decide +kernel
theorem dX12_bestMend_72 : decode cX12_bestMend 72 = .ok (.sipush 1677, 3) := by decide +kernel
theorem dX12_bestMend_75 : decode cX12_bestMend 75 = .ok (.iconst 3, 1) := by decide +kernel
theorem dX12_bestMend_76 : decode cX12_bestMend 76 = .ok (.iload_n 1, 1) := by decide +kernel
theorem dX12_bestMend_77 : decode cX12_bestMend 77 = .ok (.imul, 1) := by decide +kernel
theorem dX12_bestMend_78 : decode cX12_bestMend 78 = .ok (.iadd, 1) := by decide +kernel
theorem dX12_bestMend_79 : decode cX12_bestMend 79 = .ok (.iconst 2, 1) := by decide +kernel
theorem dX12_bestMend_80 : decode cX12_bestMend 80 = .ok (.iadd, 1) := by decide +kernel
theorem dX12_bestMend_81 : decode cX12_bestMend 81 = .ok (.iaload, 1) := by decide +kernel
theorem dX12_bestMend_82 : decode cX12_bestMend 82 = .ok (.if_icmp .ge 124, 3) := by decide +kernel
theorem dX12_bestMend_85 : decode cX12_bestMend 85 = .ok (.aload_n 0, 1) := by decide +kernel
theorem dX12_bestMend_86 : decode cX12_bestMend 86 = .ok (.getfield 33, 3) := by decide +kernel
theorem dX12_bestMend_89 : decode cX12_bestMend 89 = .ok (.sipush 2107, 3) := by decide +kernel
theorem dX12_bestMend_92 : decode cX12_bestMend 92 = .ok (.bipush 40, 2) := by decide +kernel
theorem dX12_bestMend_94 : decode cX12_bestMend 94 = .ok (.iload_n 1, 1) := by decide +kernel
theorem dX12_bestMend_95 : decode cX12_bestMend 95 = .ok (.imul, 1) := by decide +kernel
theorem dX12_bestMend_96 : decode cX12_bestMend 96 = .ok (.iadd, 1) := by decide +kernel
theorem dX12_bestMend_97 : decode cX12_bestMend 97 = .ok (.iload_n 3, 1) := by decide +kernel
theorem dX12_bestMend_98 : decode cX12_bestMend 98 = .ok (.iadd, 1) := by decide +kernel
theorem dX12_bestMend_99 : decode cX12_bestMend 99 = .ok (.iaload, 1) := by decide +kernel
theorem dX12_bestMend_100 : decode cX12_bestMend 100 = .ok (.istore 4, 2) := by decide +kernel
theorem dX12_bestMend_102 : decode cX12_bestMend 102 = .ok (.iconst 0, 1) := by decide +kernel
theorem dX12_bestMend_103 : decode cX12_bestMend 103 = .ok (.istore 5, 2) := by decide +kernel
theorem dX12_bestMend_105 : decode cX12_bestMend 105 = .ok (.iload 5, 2) := by decide +kernel
theorem dX12_bestMend_107 : decode cX12_bestMend 107 = .ok (.aload_n 0, 1) := by decide +kernel
theorem dX12_bestMend_108 : decode cX12_bestMend 108 = .ok (.getfield 397, 3) := by decide +kernel
theorem dX12_bestMend_111 : decode cX12_bestMend 111 = .ok (.if_icmp .ge 72, 3) := by decide +kernel
theorem dX12_bestMend_114 : decode cX12_bestMend 114 = .ok (.aload_n 0, 1) := by decide +kernel
theorem dX12_bestMend_115 : decode cX12_bestMend 115 = .ok (.getfield 33, 3) := by decide +kernel
theorem dX12_bestMend_118 : decode cX12_bestMend 118 = .ok (.sipush 2107, 3) := by decide +kernel
theorem dX12_bestMend_121 : decode cX12_bestMend 121 = .ok (.bipush 40, 2) := by decide +kernel
theorem dX12_bestMend_123 : decode cX12_bestMend 123 = .ok (.iload_n 1, 1) := by decide +kernel
theorem dX12_bestMend_124 : decode cX12_bestMend 124 = .ok (.imul, 1) := by decide +kernel
theorem dX12_bestMend_125 : decode cX12_bestMend 125 = .ok (.iadd, 1) := by decide +kernel
theorem dX12_bestMend_126 : decode cX12_bestMend 126 = .ok (.iload_n 3, 1) := by decide +kernel
theorem dX12_bestMend_127 : decode cX12_bestMend 127 = .ok (.iadd, 1) := by decide +kernel
theorem dX12_bestMend_128 : decode cX12_bestMend 128 = .ok (.aload_n 0, 1) := by decide +kernel
theorem dX12_bestMend_129 : decode cX12_bestMend 129 = .ok (.getfield 81, 3) := by decide +kernel
theorem dX12_bestMend_132 : decode cX12_bestMend 132 = .ok (.iload 5, 2) := by decide +kernel
theorem dX12_bestMend_134 : decode cX12_bestMend 134 = .ok (.iaload, 1) := by decide +kernel
theorem dX12_bestMend_135 : decode cX12_bestMend 135 = .ok (.iastore, 1) := by decide +kernel
theorem dX12_bestMend_136 : decode cX12_bestMend 136 = .ok (.aload_n 0, 1) := by decide +kernel
theorem dX12_bestMend_137 : decode cX12_bestMend 137 = .ok (.iload_n 1, 1) := by decide +kernel
theorem dX12_bestMend_138 : decode cX12_bestMend 138 = .ok (.aload_n 0, 1) := by decide +kernel
theorem dX12_bestMend_139 : decode cX12_bestMend 139 = .ok (.iload_n 1, 1) := by decide +kernel
theorem dX12_bestMend_140 : decode cX12_bestMend 140 = .ok (.invokevirtual 487, 3) := by decide +kernel
theorem dX12_bestMend_143 : decode cX12_bestMend 143 = .ok (.invokevirtual 484, 3) := by decide +kernel
theorem dX12_bestMend_146 : decode cX12_bestMend 146 = .ok (.istore 6, 2) := by decide +kernel
theorem dX12_bestMend_148 : decode cX12_bestMend 148 = .ok (.iload 6, 2) := by decide +kernel
theorem dX12_bestMend_150 : decode cX12_bestMend 150 = .ok (.iload_n 2, 1) := by decide +kernel
theorem dX12_bestMend_151 : decode cX12_bestMend 151 = .ok (.if_icmp .gt 6, 3) := by decide +kernel
theorem dX12_bestMend_154 : decode cX12_bestMend 154 = .ok (.goto 23, 3) := by decide +kernel
theorem dX12_bestMend_157 : decode cX12_bestMend 157 = .ok (.iload 6, 2) := by decide +kernel
theorem dX12_bestMend_159 : decode cX12_bestMend 159 = .ok (.istore_n 2, 1) := by decide +kernel
theorem dX12_bestMend_160 : decode cX12_bestMend 160 = .ok (.aload_n 0, 1) := by decide +kernel
theorem dX12_bestMend_161 : decode cX12_bestMend 161 = .ok (.iload 4, 2) := by decide +kernel
theorem dX12_bestMend_163 : decode cX12_bestMend 163 = .ok (.putfield 496, 3) := by decide +kernel
theorem dX12_bestMend_166 : decode cX12_bestMend 166 = .ok (.aload_n 0, 1) := by decide +kernel
theorem dX12_bestMend_167 : decode cX12_bestMend 167 = .ok (.aload_n 0, 1) := by decide +kernel
theorem dX12_bestMend_168 : decode cX12_bestMend 168 = .ok (.getfield 81, 3) := by decide +kernel
theorem dX12_bestMend_171 : decode cX12_bestMend 171 = .ok (.iload 5, 2) := by decide +kernel
theorem dX12_bestMend_173 : decode cX12_bestMend 173 = .ok (.iaload, 1) := by decide +kernel
theorem dX12_bestMend_174 : decode cX12_bestMend 174 = .ok (.putfield 499, 3) := by decide +kernel
theorem dX12_bestMend_177 : decode cX12_bestMend 177 = .ok (.iinc 5 1, 3) := by decide +kernel
theorem dX12_bestMend_180 : decode cX12_bestMend 180 = .ok (.goto (-75), 3) := by decide +kernel
theorem dX12_bestMend_183 : decode cX12_bestMend 183 = .ok (.aload_n 0, 1) := by decide +kernel
theorem dX12_bestMend_184 : decode cX12_bestMend 184 = .ok (.getfield 33, 3) := by decide +kernel
theorem dX12_bestMend_187 : decode cX12_bestMend 187 = .ok (.sipush 2107, 3) := by decide +kernel
theorem dX12_bestMend_190 : decode cX12_bestMend 190 = .ok (.bipush 40, 2) := by decide +kernel
theorem dX12_bestMend_192 : decode cX12_bestMend 192 = .ok (.iload_n 1, 1) := by decide +kernel
theorem dX12_bestMend_193 : decode cX12_bestMend 193 = .ok (.imul, 1) := by decide +kernel
theorem dX12_bestMend_194 : decode cX12_bestMend 194 = .ok (.iadd, 1) := by decide +kernel
theorem dX12_bestMend_195 : decode cX12_bestMend 195 = .ok (.iload_n 3, 1) := by decide +kernel
theorem dX12_bestMend_196 : decode cX12_bestMend 196 = .ok (.iadd, 1) := by decide +kernel
theorem dX12_bestMend_197 : decode cX12_bestMend 197 = .ok (.iload 4, 2) := by decide +kernel
theorem dX12_bestMend_199 : decode cX12_bestMend 199 = .ok (.iastore, 1) := by decide +kernel
theorem dX12_bestMend_200 : decode cX12_bestMend 200 = .ok (.iinc 3 1, 3) := by decide +kernel
theorem dX12_bestMend_203 : decode cX12_bestMend 203 = .ok (.goto (-136), 3) := by decide +kernel
theorem dX12_bestMend_206 : decode cX12_bestMend 206 = .ok (.aload_n 0, 1) := by decide +kernel
theorem dX12_bestMend_207 : decode cX12_bestMend 207 = .ok (.iconst 1, 1) := by decide +kernel
theorem dX12_bestMend_208 : decode cX12_bestMend 208 = .ok (.putfield 502, 3) := by decide +kernel
theorem dX12_bestMend_211 : decode cX12_bestMend 211 = .ok (.iload_n 2, 1) := by decide +kernel
theorem dX12_bestMend_212 : decode cX12_bestMend 212 = .ok (.ireturn, 1) := by decide +kernel
theorem dX12_bestBy_0 : decode cX12_bestBy 0 = .ok (.aload_n 0, 1) := by decide +kernel
theorem dX12_bestBy_1 : decode cX12_bestBy 1 = .ok (.iconst 0, 1) := by decide +kernel
theorem dX12_bestBy_2 : decode cX12_bestBy 2 = .ok (.putfield 1, 3) := by decide +kernel
theorem dX12_bestBy_5 : decode cX12_bestBy 5 = .ok (.aload_n 0, 1) := by decide +kernel
theorem dX12_bestBy_6 : decode cX12_bestBy 6 = .ok (.getfield 502, 3) := by decide +kernel
theorem dX12_bestBy_9 : decode cX12_bestBy 9 = .ok (.ifCond .ne 7, 3) := by decide +kernel
theorem dX12_bestBy_12 : decode cX12_bestBy 12 = .ok (.iconst (-1), 1) := by decide +kernel
theorem dX12_bestBy_13 : decode cX12_bestBy 13 = .ok (.goto 27, 3) := by decide +kernel
theorem dX12_bestBy_16 : decode cX12_bestBy 16 = .ok (.iload_n 1, 1) := by decide +kernel
theorem dX12_bestBy_17 : decode cX12_bestBy 17 = .ok (.ifCond .ne 10, 3) := by decide +kernel
theorem dX12_bestBy_20 : decode cX12_bestBy 20 = .ok (.aload_n 0, 1) := by decide +kernel
theorem dX12_bestBy_21 : decode cX12_bestBy 21 = .ok (.getfield 496, 3) := by decide +kernel
theorem dX12_bestBy_24 : decode cX12_bestBy 24 = .ok (.goto 16, 3) := by decide +kernel
theorem dX12_bestBy_27 : decode cX12_bestBy 27 = .ok (.iload_n 1, 1) := by decide +kernel
theorem dX12_bestBy_28 : decode cX12_bestBy 28 = .ok (.iconst 1, 1) := by decide +kernel
theorem dX12_bestBy_29 : decode cX12_bestBy 29 = .ok (.if_icmp .ne 10, 3) := by decide +kernel
theorem dX12_bestBy_32 : decode cX12_bestBy 32 = .ok (.aload_n 0, 1) := by decide +kernel
theorem dX12_bestBy_33 : decode cX12_bestBy 33 = .ok (.getfield 499, 3) := by decide +kernel
theorem dX12_bestBy_36 : decode cX12_bestBy 36 = .ok (.goto 4, 3) := by decide +kernel
theorem dX12_bestBy_39 : decode cX12_bestBy 39 = .ok (.iconst (-1), 1) := by decide +kernel
theorem dX12_bestBy_40 : decode cX12_bestBy 40 = .ok (.ireturn, 1) := by decide +kernel
theorem dX12_balance_0 : decode cX12_balance 0 = .ok (.aload_n 0, 1) := by decide +kernel
theorem dX12_balance_1 : decode cX12_balance 1 = .ok (.iconst 0, 1) := by decide +kernel
theorem dX12_balance_2 : decode cX12_balance 2 = .ok (.putfield 1, 3) := by decide +kernel
theorem dX12_balance_5 : decode cX12_balance 5 = .ok (.aload_n 0, 1) := by decide +kernel
theorem dX12_balance_6 : decode cX12_balance 6 = .ok (.sipush 540, 3) := by decide +kernel
theorem dX12_balance_9 : decode cX12_balance 9 = .ok (.invokevirtual 292, 3) := by decide +kernel
theorem dX12_balance_12 : decode cX12_balance 12 = .ok (.aload_n 0, 1) := by decide +kernel
theorem dX12_balance_13 : decode cX12_balance 13 = .ok (.iload_n 1, 1) := by decide +kernel
theorem dX12_balance_14 : decode cX12_balance 14 = .ok (.invokevirtual 478, 3) := by decide +kernel
theorem dX12_balance_17 : decode cX12_balance 17 = .ok (.ifCond .eq 15, 3) := by decide +kernel
theorem dX12_balance_20 : decode cX12_balance 20 = .ok (.aload_n 0, 1) := by decide +kernel
theorem dX12_balance_21 : decode cX12_balance 21 = .ok (.getfield 18, 3) := by decide +kernel
theorem dX12_balance_24 : decode cX12_balance 24 = .ok (.aload_n 0, 1) := by decide +kernel
theorem dX12_balance_25 : decode cX12_balance 25 = .ok (.iload_n 1, 1) := by decide +kernel
theorem dX12_balance_26 : decode cX12_balance 26 = .ok (.invokevirtual 481, 3) := by decide +kernel
theorem dX12_balance_29 : decode cX12_balance 29 = .ok (.if_icmp .eq 5, 3) := by decide +kernel
theorem dX12_balance_32 : decode cX12_balance 32 = .ok (.iconst (-1), 1) := by decide +kernel
theorem dX12_balance_33 : decode cX12_balance 33 = .ok (.ireturn, 1) := by decide +kernel
theorem dX12_balance_34 : decode cX12_balance 34 = .ok (.iconst 0, 1) := by decide +kernel
theorem dX12_balance_35 : decode cX12_balance 35 = .ok (.istore_n 2, 1) := by decide +kernel
theorem dX12_balance_36 : decode cX12_balance 36 = .ok (.iload_n 2, 1) := by decide +kernel
theorem dX12_balance_37 : decode cX12_balance 37 = .ok (.aload_n 0, 1) := by decide +kernel
theorem dX12_balance_38 : decode cX12_balance 38 = .ok (.getfield 18, 3) := by decide +kernel
theorem dX12_balance_41 : decode cX12_balance 41 = .ok (.if_icmp .ge 21, 3) := by decide +kernel
theorem dX12_balance_44 : decode cX12_balance 44 = .ok (.aload_n 0, 1) := by decide +kernel
theorem dX12_balance_45 : decode cX12_balance 45 = .ok (.iload_n 2, 1) := by decide +kernel
theorem dX12_balance_46 : decode cX12_balance 46 = .ok (.invokevirtual 400, 3) := by decide +kernel
theorem dX12_balance_49 : decode cX12_balance 49 = .ok (.bipush 100, 2) := by decide +kernel
theorem dX12_balance_51 : decode cX12_balance 51 = .ok (.if_icmp .le 5, 3) := by decide +kernel
theorem dX12_balance_54 : decode cX12_balance 54 = .ok (.iconst (-1), 1) := by decide +kernel
theorem dX12_balance_55 : decode cX12_balance 55 = .ok (.ireturn, 1) := by decide +kernel
theorem dX12_balance_56 : decode cX12_balance 56 = .ok (.iinc 2 1, 3) := by decide +kernel
theorem dX12_balance_59 : decode cX12_balance 59 = .ok (.goto (-23), 3) := by decide +kernel
theorem dX12_balance_62 : decode cX12_balance 62 = .ok (.aload_n 0, 1) := by decide +kernel
theorem dX12_balance_63 : decode cX12_balance 63 = .ok (.invokevirtual 324, 3) := by decide +kernel
theorem dX12_balance_66 : decode cX12_balance 66 = .ok (.iconst 0, 1) := by decide +kernel
theorem dX12_balance_67 : decode cX12_balance 67 = .ok (.istore_n 2, 1) := by decide +kernel
theorem dX12_balance_68 : decode cX12_balance 68 = .ok (.iload_n 2, 1) := by decide +kernel
theorem dX12_balance_69 : decode cX12_balance 69 = .ok (.aload_n 0, 1) := by decide +kernel
theorem dX12_balance_70 : decode cX12_balance 70 = .ok (.getfield 18, 3) := by decide +kernel
theorem dX12_balance_73 : decode cX12_balance 73 = .ok (.if_icmp .ge 30, 3) := by decide +kernel
theorem dX12_balance_76 : decode cX12_balance 76 = .ok (.aload_n 0, 1) := by decide +kernel
theorem dX12_balance_77 : decode cX12_balance 77 = .ok (.getfield 93, 3) := by decide +kernel
theorem dX12_balance_80 : decode cX12_balance 80 = .ok (.iload_n 2, 1) := by decide +kernel
theorem dX12_balance_81 : decode cX12_balance 81 = .ok (.aload_n 0, 1) := by decide +kernel
theorem dX12_balance_82 : decode cX12_balance 82 = .ok (.iload_n 1, 1) := by decide +kernel
theorem dX12_balance_83 : decode cX12_balance 83 = .ok (.iload_n 2, 1) := by decide +kernel
theorem dX12_balance_84 : decode cX12_balance 84 = .ok (.invokevirtual 472, 3) := by decide +kernel
theorem dX12_balance_87 : decode cX12_balance 87 = .ok (.aload_n 0, 1) := by decide +kernel
theorem dX12_balance_88 : decode cX12_balance 88 = .ok (.iload_n 2, 1) := by decide +kernel
theorem dX12_balance_89 : decode cX12_balance 89 = .ok (.invokevirtual 400, 3) := by decide +kernel
theorem dX12_balance_92 : decode cX12_balance 92 = .ok (.imul, 1) := by decide +kernel
theorem dX12_balance_93 : decode cX12_balance 93 = .ok (.bipush 100, 2) := by decide +kernel
theorem dX12_balance_95 : decode cX12_balance 95 = .ok (.idiv, 1) := by decide +kernel
theorem dX12_balance_96 : decode cX12_balance 96 = .ok (.iastore, 1) := by decide +kernel
theorem dX12_balance_97 : decode cX12_balance 97 = .ok (.iinc 2 1, 3) := by decide +kernel
theorem dX12_balance_100 : decode cX12_balance 100 = .ok (.goto (-32), 3) := by decide +kernel
theorem dX12_balance_103 : decode cX12_balance 103 = .ok (.aload_n 0, 1) := by decide +kernel
theorem dX12_balance_104 : decode cX12_balance 104 = .ok (.aload_n 0, 1) := by decide +kernel
theorem dX12_balance_105 : decode cX12_balance 105 = .ok (.getfield 18, 3) := by decide +kernel
theorem dX12_balance_108 : decode cX12_balance 108 = .ok (.invokevirtual 430, 3) := by decide +kernel
theorem dX12_balance_111 : decode cX12_balance 111 = .ok (.istore_n 2, 1) := by decide +kernel
theorem dX12_balance_112 : decode cX12_balance 112 = .ok (.aload_n 0, 1) := by decide +kernel
theorem dX12_balance_113 : decode cX12_balance 113 = .ok (.iconst 0, 1) := by decide +kernel
theorem dX12_balance_114 : decode cX12_balance 114 = .ok (.putfield 114, 3) := by decide +kernel
theorem dX12_balance_117 : decode cX12_balance 117 = .ok (.iconst 0, 1) := by decide +kernel
theorem dX12_balance_118 : decode cX12_balance 118 = .ok (.istore_n 3, 1) := by decide +kernel
theorem dX12_balance_119 : decode cX12_balance 119 = .ok (.iload_n 3, 1) := by decide +kernel
theorem dX12_balance_120 : decode cX12_balance 120 = .ok (.aload_n 0, 1) := by decide +kernel
theorem dX12_balance_121 : decode cX12_balance 121 = .ok (.getfield 18, 3) := by decide +kernel
theorem dX12_balance_124 : decode cX12_balance 124 = .ok (.if_icmp .ge 26, 3) := by decide +kernel
theorem dX12_balance_127 : decode cX12_balance 127 = .ok (.aload_n 0, 1) := by decide +kernel
theorem dX12_balance_128 : decode cX12_balance 128 = .ok (.dup, 1) := by decide +kernel
theorem dX12_balance_129 : decode cX12_balance 129 = .ok (.getfield 114, 3) := by decide +kernel
theorem dX12_balance_132 : decode cX12_balance 132 = .ok (.aload_n 0, 1) := by decide +kernel
theorem dX12_balance_133 : decode cX12_balance 133 = .ok (.getfield 93, 3) := by decide +kernel
theorem dX12_balance_136 : decode cX12_balance 136 = .ok (.iload_n 3, 1) := by decide +kernel
theorem dX12_balance_137 : decode cX12_balance 137 = .ok (.iaload, 1) := by decide +kernel
theorem dX12_balance_138 : decode cX12_balance 138 = .ok (.iload_n 2, 1) := by decide +kernel
theorem dX12_balance_139 : decode cX12_balance 139 = .ok (.isub, 1) := by decide +kernel
theorem dX12_balance_140 : decode cX12_balance 140 = .ok (.iadd, 1) := by decide +kernel
theorem dX12_balance_141 : decode cX12_balance 141 = .ok (.putfield 114, 3) := by decide +kernel
theorem dX12_balance_144 : decode cX12_balance 144 = .ok (.iinc 3 1, 3) := by decide +kernel
theorem dX12_balance_147 : decode cX12_balance 147 = .ok (.goto (-28), 3) := by decide +kernel
theorem dX12_balance_150 : decode cX12_balance 150 = .ok (.aload_n 0, 1) := by decide +kernel
theorem dX12_balance_151 : decode cX12_balance 151 = .ok (.aload_n 0, 1) := by decide +kernel
theorem dX12_balance_152 : decode cX12_balance 152 = .ok (.getfield 18, 3) := by decide +kernel
theorem dX12_balance_155 : decode cX12_balance 155 = .ok (.invokevirtual 433, 3) := by decide +kernel
theorem dX12_balance_158 : decode cX12_balance 158 = .ok (.iload_n 2, 1) := by decide +kernel
theorem dX12_balance_159 : decode cX12_balance 159 = .ok (.isub, 1) := by decide +kernel
theorem dX12_balance_160 : decode cX12_balance 160 = .ok (.aload_n 0, 1) := by decide +kernel
theorem dX12_balance_161 : decode cX12_balance 161 = .ok (.getfield 33, 3) := by decide +kernel
theorem dX12_balance_164 : decode cX12_balance 164 = .ok (.iconst 5, 1) := by decide +kernel
theorem dX12_balance_165 : decode cX12_balance 165 = .ok (.iaload, 1) := by decide +kernel
theorem dX12_balance_166 : decode cX12_balance 166 = .ok (.iadd, 1) := by decide +kernel
theorem dX12_balance_167 : decode cX12_balance 167 = .ok (.iconst 1, 1) := by decide +kernel
theorem dX12_balance_168 : decode cX12_balance 168 = .ok (.isub, 1) := by decide +kernel
theorem dX12_balance_169 : decode cX12_balance 169 = .ok (.aload_n 0, 1) := by decide +kernel
theorem dX12_balance_170 : decode cX12_balance 170 = .ok (.getfield 33, 3) := by decide +kernel
theorem dX12_balance_173 : decode cX12_balance 173 = .ok (.iconst 5, 1) := by decide +kernel
theorem dX12_balance_174 : decode cX12_balance 174 = .ok (.iaload, 1) := by decide +kernel
theorem dX12_balance_175 : decode cX12_balance 175 = .ok (.idiv, 1) := by decide +kernel
theorem dX12_balance_176 : decode cX12_balance 176 = .ok (.ireturn, 1) := by decide +kernel
theorem dX12_lost_0 : decode cX12_lost 0 = .ok (.aload_n 0, 1) := by decide +kernel
theorem dX12_lost_1 : decode cX12_lost 1 = .ok (.iconst 0, 1) := by decide +kernel
theorem dX12_lost_2 : decode cX12_lost 2 = .ok (.putfield 1, 3) := by decide +kernel
theorem dX12_lost_5 : decode cX12_lost 5 = .ok (.aload_n 0, 1) := by decide +kernel
theorem dX12_lost_6 : decode cX12_lost 6 = .ok (.getfield 114, 3) := by decide +kernel
theorem dX12_lost_9 : decode cX12_lost 9 = .ok (.ireturn, 1) := by decide +kernel
theorem dX12_shorted_0 : decode cX12_shorted 0 = .ok (.aload_n 0, 1) := by decide +kernel
theorem dX12_shorted_1 : decode cX12_shorted 1 = .ok (.iconst 0, 1) := by decide +kernel
theorem dX12_shorted_2 : decode cX12_shorted 2 = .ok (.putfield 1, 3) := by decide +kernel
theorem dX12_shorted_5 : decode cX12_shorted 5 = .ok (.aload_n 0, 1) := by decide +kernel
theorem dX12_shorted_6 : decode cX12_shorted 6 = .ok (.iload_n 1, 1) := by decide +kernel
theorem dX12_shorted_7 : decode cX12_shorted 7 = .ok (.invokevirtual 304, 3) := by decide +kernel
theorem dX12_shorted_10 : decode cX12_shorted 10 = .ok (.ifCond .eq 11, 3) := by decide +kernel
theorem dX12_shorted_13 : decode cX12_shorted 13 = .ok (.aload_n 0, 1) := by decide +kernel
theorem dX12_shorted_14 : decode cX12_shorted 14 = .ok (.iload_n 1, 1) := by decide +kernel
theorem dX12_shorted_15 : decode cX12_shorted 15 = .ok (.invokevirtual 332, 3) := by decide +kernel
theorem dX12_shorted_18 : decode cX12_shorted 18 = .ok (.goto 4, 3) := by decide +kernel
theorem dX12_shorted_21 : decode cX12_shorted 21 = .ok (.iconst (-1), 1) := by decide +kernel
theorem dX12_shorted_22 : decode cX12_shorted 22 = .ok (.istore_n 2, 1) := by decide +kernel
theorem dX12_shorted_23 : decode cX12_shorted 23 = .ok (.iload_n 2, 1) := by decide +kernel
theorem dX12_shorted_24 : decode cX12_shorted 24 = .ok (.ifCond .ge 5, 3) := by decide +kernel
theorem dX12_shorted_27 : decode cX12_shorted 27 = .ok (.iconst (-1), 1) := by decide +kernel
theorem dX12_shorted_28 : decode cX12_shorted 28 = .ok (.ireturn, 1) := by decide +kernel
theorem dX12_shorted_29 : decode cX12_shorted 29 = .ok (.aload_n 0, 1) := by decide +kernel
theorem dX12_shorted_30 : decode cX12_shorted 30 = .ok (.invokevirtual 324, 3) := by decide +kernel
theorem dX12_shorted_33 : decode cX12_shorted 33 = .ok (.aload_n 0, 1) := by decide +kernel
theorem dX12_shorted_34 : decode cX12_shorted 34 = .ok (.iload_n 2, 1) := by decide +kernel
theorem dX12_shorted_35 : decode cX12_shorted 35 = .ok (.iload_n 1, 1) := by decide +kernel
theorem dX12_shorted_36 : decode cX12_shorted 36 = .ok (.invokevirtual 490, 3) := by decide +kernel
theorem dX12_shorted_39 : decode cX12_shorted 39 = .ok (.aload_n 0, 1) := by decide +kernel
theorem dX12_shorted_40 : decode cX12_shorted 40 = .ok (.iload_n 2, 1) := by decide +kernel
theorem dX12_shorted_41 : decode cX12_shorted 41 = .ok (.invokevirtual 464, 3) := by decide +kernel
theorem dX12_shorted_44 : decode cX12_shorted 44 = .ok (.idiv, 1) := by decide +kernel
theorem dX12_shorted_45 : decode cX12_shorted 45 = .ok (.istore_n 3, 1) := by decide +kernel
theorem dX12_shorted_46 : decode cX12_shorted 46 = .ok (.iconst 0, 1) := by decide +kernel
theorem dX12_shorted_47 : decode cX12_shorted 47 = .ok (.istore 4, 2) := by decide +kernel
theorem dX12_shorted_49 : decode cX12_shorted 49 = .ok (.iconst 0, 1) := by decide +kernel
theorem dX12_shorted_50 : decode cX12_shorted 50 = .ok (.istore 5, 2) := by decide +kernel
theorem dX12_shorted_52 : decode cX12_shorted 52 = .ok (.iconst 0, 1) := by decide +kernel
theorem dX12_shorted_53 : decode cX12_shorted 53 = .ok (.istore 6, 2) := by decide +kernel
theorem dX12_shorted_55 : decode cX12_shorted 55 = .ok (.iload 6, 2) := by decide +kernel
theorem dX12_shorted_57 : decode cX12_shorted 57 = .ok (.aload_n 0, 1) := by decide +kernel
theorem dX12_shorted_58 : decode cX12_shorted 58 = .ok (.iload_n 2, 1) := by decide +kernel
theorem dX12_shorted_59 : decode cX12_shorted 59 = .ok (.invokevirtual 464, 3) := by decide +kernel
theorem dX12_shorted_62 : decode cX12_shorted 62 = .ok (.if_icmp .ge 93, 3) := by decide +kernel
theorem dX12_shorted_65 : decode cX12_shorted 65 = .ok (.aload_n 0, 1) := by decide +kernel
theorem dX12_shorted_66 : decode cX12_shorted 66 = .ok (.getfield 33, 3) := by decide +kernel
theorem dX12_shorted_69 : decode cX12_shorted 69 = .ok (.sipush 2107, 3) := by decide +kernel
theorem dX12_shorted_72 : decode cX12_shorted 72 = .ok (.bipush 40, 2) := by decide +kernel
theorem dX12_shorted_74 : decode cX12_shorted 74 = .ok (.iload_n 2, 1) := by decide +kernel
theorem dX12_shorted_75 : decode cX12_shorted 75 = .ok (.imul, 1) := by decide +kernel
theorem dX12_shorted_76 : decode cX12_shorted 76 = .ok (.iadd, 1) := by decide +kernel
theorem dX12_shorted_77 : decode cX12_shorted 77 = .ok (.aload_n 0, 1) := by decide +kernel
theorem dX12_shorted_78 : decode cX12_shorted 78 = .ok (.iload_n 2, 1) := by decide +kernel
theorem dX12_shorted_79 : decode cX12_shorted 79 = .ok (.invokevirtual 464, 3) := by decide +kernel
theorem dX12_shorted_82 : decode cX12_shorted 82 = .ok (.iload_n 3, 1) := by decide +kernel
theorem dX12_shorted_83 : decode cX12_shorted 83 = .ok (.imul, 1) := by decide +kernel
theorem dX12_shorted_84 : decode cX12_shorted 84 = .ok (.iadd, 1) := by decide +kernel
theorem dX12_shorted_85 : decode cX12_shorted 85 = .ok (.iload 6, 2) := by decide +kernel
theorem dX12_shorted_87 : decode cX12_shorted 87 = .ok (.iadd, 1) := by decide +kernel
theorem dX12_shorted_88 : decode cX12_shorted 88 = .ok (.iaload, 1) := by decide +kernel
theorem dX12_shorted_89 : decode cX12_shorted 89 = .ok (.istore 7, 2) := by decide +kernel
theorem dX12_shorted_91 : decode cX12_shorted 91 = .ok (.iload 7, 2) := by decide +kernel
theorem dX12_shorted_93 : decode cX12_shorted 93 = .ok (.iload_n 1, 1) := by decide +kernel
theorem dX12_shorted_94 : decode cX12_shorted 94 = .ok (.if_icmp .ne 6, 3) := by decide +kernel
theorem dX12_shorted_97 : decode cX12_shorted 97 = .ok (.goto 52, 3) := by decide +kernel
theorem dX12_shorted_100 : decode cX12_shorted 100 = .ok (.ldc_w 506, 3) := by decide +kernel
theorem dX12_shorted_103 : decode cX12_shorted 103 = .ok (.aload_n 0, 1) := by decide +kernel
theorem dX12_shorted_104 : decode cX12_shorted 104 = .ok (.getfield 60, 3) := by decide +kernel
theorem dX12_shorted_107 : decode cX12_shorted 107 = .ok (.iload_n 1, 1) := by decide +kernel
theorem dX12_shorted_108 : decode cX12_shorted 108 = .ok (.iaload, 1) := by decide +kernel
theorem dX12_shorted_109 : decode cX12_shorted 109 = .ok (.aload_n 0, 1) := by decide +kernel
theorem dX12_shorted_110 : decode cX12_shorted 110 = .ok (.getfield 60, 3) := by decide +kernel
theorem dX12_shorted_113 : decode cX12_shorted 113 = .ok (.iload 7, 2) := by decide +kernel
theorem dX12_shorted_115 : decode cX12_shorted 115 = .ok (.iaload, 1) := by decide +kernel
theorem dX12_shorted_116 : decode cX12_shorted 116 = .ok (.iadd, 1) := by decide +kernel
theorem dX12_shorted_117 : decode cX12_shorted 117 = .ok (.idiv, 1) := by decide +kernel
theorem dX12_shorted_118 : decode cX12_shorted 118 = .ok (.istore 8, 2) := by decide +kernel
theorem dX12_shorted_120 : decode cX12_shorted 120 = .ok (.iload 4, 2) := by decide +kernel
theorem dX12_shorted_122 : decode cX12_shorted 122 = .ok (.iload 8, 2) := by decide +kernel
theorem dX12_shorted_124 : decode cX12_shorted 124 = .ok (.aload_n 0, 1) := by decide +kernel
theorem dX12_shorted_125 : decode cX12_shorted 125 = .ok (.getfield 33, 3) := by decide +kernel
theorem dX12_shorted_128 : decode cX12_shorted 128 = .ok (.bipush 6, 2) := by decide +kernel
theorem dX12_shorted_130 : decode cX12_shorted 130 = .ok (.iaload, 1) := by decide +kernel
theorem dX12_shorted_131 : decode cX12_shorted 131 = .ok (.if_icmp .le 7, 3) := by decide +kernel
theorem dX12_shorted_134 : decode cX12_shorted 134 = .ok (.iconst 1, 1) := by decide +kernel
theorem dX12_shorted_135 : decode cX12_shorted 135 = .ok (.goto 4, 3) := by decide +kernel
theorem dX12_shorted_138 : decode cX12_shorted 138 = .ok (.iconst 0, 1) := by decide +kernel
theorem dX12_shorted_139 : decode cX12_shorted 139 = .ok (.iadd, 1) := by decide +kernel
theorem dX12_shorted_140 : decode cX12_shorted 140 = .ok (.istore 4, 2) := by decide +kernel
theorem dX12_shorted_142 : decode cX12_shorted 142 = .ok (.iload 5, 2) := by decide +kernel
theorem dX12_shorted_144 : decode cX12_shorted 144 = .ok (.iload 8, 2) := by decide +kernel
theorem dX12_shorted_146 : decode cX12_shorted 146 = .ok (.iadd, 1) := by decide +kernel
theorem dX12_shorted_147 : decode cX12_shorted 147 = .ok (.istore 5, 2) := by decide +kernel
theorem dX12_shorted_149 : decode cX12_shorted 149 = .ok (.iinc 6 1, 3) := by decide +kernel
theorem dX12_shorted_152 : decode cX12_shorted 152 = .ok (.goto (-97), 3) := by decide +kernel
theorem dX12_shorted_155 : decode cX12_shorted 155 = .ok (.bipush 10, 2) := by decide +kernel
theorem dX12_shorted_157 : decode cX12_shorted 157 = .ok (.iload 4, 2) := by decide +kernel
theorem dX12_shorted_159 : decode cX12_shorted 159 = .ok (.imul, 1) := by decide +kernel
theorem dX12_shorted_160 : decode cX12_shorted 160 = .ok (.iload 5, 2) := by decide +kernel
theorem dX12_shorted_162 : decode cX12_shorted 162 = .ok (.aload_n 0, 1) := by decide +kernel
theorem dX12_shorted_163 : decode cX12_shorted 163 = .ok (.getfield 33, 3) := by decide +kernel
theorem dX12_shorted_166 : decode cX12_shorted 166 = .ok (.bipush 6, 2) := by decide +kernel
theorem dX12_shorted_168 : decode cX12_shorted 168 = .ok (.iaload, 1) := by decide +kernel
theorem dX12_shorted_169 : decode cX12_shorted 169 = .ok (.if_icmp .le 7, 3) := by decide +kernel
theorem dX12_shorted_172 : decode cX12_shorted 172 = .ok (.iconst 1, 1) := by decide +kernel
theorem dX12_shorted_173 : decode cX12_shorted 173 = .ok (.goto 4, 3) := by decide +kernel
theorem dX12_shorted_176 : decode cX12_shorted 176 = .ok (.iconst 0, 1) := by decide +kernel
theorem dX12_shorted_177 : decode cX12_shorted 177 = .ok (.iadd, 1) := by decide +kernel
theorem dX12_shorted_178 : decode cX12_shorted 178 = .ok (.ireturn, 1) := by decide +kernel
theorem dX12_held_0 : decode cX12_held 0 = .ok (.aload_n 0, 1) := by decide +kernel
theorem dX12_held_1 : decode cX12_held 1 = .ok (.iconst 0, 1) := by decide +kernel
theorem dX12_held_2 : decode cX12_held 2 = .ok (.putfield 1, 3) := by decide +kernel
theorem dX12_held_5 : decode cX12_held 5 = .ok (.iload_n 1, 1) := by decide +kernel
theorem dX12_held_6 : decode cX12_held 6 = .ok (.iconst 0, 1) := by decide +kernel
theorem dX12_held_7 : decode cX12_held 7 = .ok (.aload_n 0, 1) := by decide +kernel
theorem dX12_held_8 : decode cX12_held 8 = .ok (.getfield 33, 3) := by decide +kernel
theorem dX12_held_11 : decode cX12_held 11 = .ok (.iconst 1, 1) := by decide +kernel
theorem dX12_held_12 : decode cX12_held 12 = .ok (.iaload, 1) := by decide +kernel
theorem dX12_held_13 : decode cX12_held 13 = .ok (.iconst 1, 1) := by decide +kernel
theorem dX12_held_14 : decode cX12_held 14 = .ok (.isub, 1) := by decide +kernel
theorem dX12_held_15 : decode cX12_held 15 = .ok (.invokestatic 262, 3) := by decide +kernel
theorem dX12_held_18 : decode cX12_held 18 = .ok (.ifCond .eq 14, 3) := by decide +kernel
theorem dX12_held_21 : decode cX12_held 21 = .ok (.iload_n 2, 1) := by decide +kernel
theorem dX12_held_22 : decode cX12_held 22 = .ok (.iconst (-1), 1) := by decide +kernel
theorem dX12_held_23 : decode cX12_held 23 = .ok (.sipush 999, 3) := by decide +kernel
theorem dX12_held_26 : decode cX12_held 26 = .ok (.invokestatic 262, 3) := by decide +kernel
theorem dX12_held_29 : decode cX12_held 29 = .ok (.ifCond .ne 5, 3) := by decide +kernel
theorem dX12_held_32 : decode cX12_held 32 = .ok (.iconst (-1), 1) := by decide +kernel
theorem dX12_held_33 : decode cX12_held 33 = .ok (.ireturn, 1) := by decide +kernel
theorem dX12_held_34 : decode cX12_held 34 = .ok (.iconst 0, 1) := by decide +kernel
theorem dX12_held_35 : decode cX12_held 35 = .ok (.istore_n 3, 1) := by decide +kernel
theorem dX12_held_36 : decode cX12_held 36 = .ok (.iconst 0, 1) := by decide +kernel
theorem dX12_held_37 : decode cX12_held 37 = .ok (.istore 4, 2) := by decide +kernel
theorem dX12_held_39 : decode cX12_held 39 = .ok (.iload 4, 2) := by decide +kernel
theorem dX12_held_41 : decode cX12_held 41 = .ok (.aload_n 0, 1) := by decide +kernel
theorem dX12_held_42 : decode cX12_held 42 = .ok (.getfield 33, 3) := by decide +kernel
theorem dX12_held_45 : decode cX12_held 45 = .ok (.bipush 14, 2) := by decide +kernel
theorem dX12_held_47 : decode cX12_held 47 = .ok (.iaload, 1) := by decide +kernel
theorem dX12_held_48 : decode cX12_held 48 = .ok (.if_icmp .ge 333, 3) := by decide +kernel
theorem dX12_held_51 : decode cX12_held 51 = .ok (.iload_n 2, 1) := by decide +kernel
theorem dX12_held_52 : decode cX12_held 52 = .ok (.iconst (-1), 1) := by decide +kernel
theorem dX12_held_53 : decode cX12_held 53 = .ok (.if_icmp .eq 23, 3) := by decide +kernel
theorem dX12_held_56 : decode cX12_held 56 = .ok (.aload_n 0, 1) := by decide +kernel
theorem dX12_held_57 : decode cX12_held 57 = .ok (.getfield 33, 3) := by decide +kernel
theorem dX12_held_60 : decode cX12_held 60 = .ok (.sipush 1677, 3) := by decide +kernel
theorem dX12_held_63 : decode cX12_held 63 = .ok (.iconst 3, 1) := by decide +kernel
theorem dX12_held_64 : decode cX12_held 64 = .ok (.iload 4, 2) := by decide +kernel
theorem dX12_held_66 : decode cX12_held 66 = .ok (.imul, 1) := by decide +kernel
theorem dX12_held_67 : decode cX12_held 67 = .ok (.iadd, 1) := by decide +kernel
theorem dX12_held_68 : decode cX12_held 68 = .ok (.iaload, 1) := by decide +kernel
theorem dX12_held_69 : decode cX12_held 69 = .ok (.iload_n 2, 1) := by decide +kernel
theorem dX12_held_70 : decode cX12_held 70 = .ok (.if_icmp .le 6, 3) := by decide +kernel
theorem dX12_held_73 : decode cX12_held 73 = .ok (.goto 302, 3) := by decide +kernel
theorem dX12_held_76 : decode cX12_held 76 = .ok (.iconst 0, 1) := by decide +kernel
theorem dX12_held_77 : decode cX12_held 77 = .ok (.istore 5, 2) := by decide +kernel
theorem dX12_held_79 : decode cX12_held 79 = .ok (.iconst 0, 1) := by decide +kernel
theorem dX12_held_80 : decode cX12_held 80 = .ok (.istore 6, 2) := by decide +kernel
theorem dX12_held_82 : decode cX12_held 82 = .ok (.iload 6, 2) := by decide +kernel
theorem dX12_held_84 : decode cX12_held 84 = .ok (.aload_n 0, 1) := by decide +kernel
theorem dX12_held_85 : decode cX12_held 85 = .ok (.getfield 33, 3) := by decide +kernel
theorem dX12_held_88 : decode cX12_held 88 = .ok (.sipush 1677, 3) := by decide +kernel
theorem dX12_held_91 : decode cX12_held 91 = .ok (.iconst 3, 1) := by decide +kernel
theorem dX12_held_92 : decode cX12_held 92 = .ok (.iload 4, 2) := by decide +kernel
theorem dX12_held_94 : decode cX12_held 94 = .ok (.imul, 1) := by decide +kernel
theorem dX12_held_95 : decode cX12_held 95 = .ok (.iadd, 1) := by decide +kernel
theorem dX12_held_96 : decode cX12_held 96 = .ok (.iconst 2, 1) := by decide +kernel
theorem dX12_held_97 : decode cX12_held 97 = .ok (.iadd, 1) := by decide +kernel
theorem dX12_held_98 : decode cX12_held 98 = .ok (.iaload, 1) := by decide +kernel
theorem dX12_held_99 : decode cX12_held 99 = .ok (.if_icmp .ge 64, 3) := by decide +kernel
theorem dX12_held_102 : decode cX12_held 102 = .ok (.aload_n 0, 1) := by decide +kernel
theorem dX12_held_103 : decode cX12_held 103 = .ok (.getfield 117, 3) := by decide +kernel
theorem dX12_held_106 : decode cX12_held 106 = .ok (.iload 6, 2) := by decide +kernel
theorem dX12_held_108 : decode cX12_held 108 = .ok (.aload_n 0, 1) := by decide +kernel
theorem dX12_held_109 : decode cX12_held 109 = .ok (.getfield 33, 3) := by decide +kernel
theorem dX12_held_112 : decode cX12_held 112 = .ok (.sipush 1707, 3) := by decide +kernel
theorem dX12_held_115 : decode cX12_held 115 = .ok (.bipush 40, 2) := by decide +kernel
theorem dX12_held_117 : decode cX12_held 117 = .ok (.iload 4, 2) := by decide +kernel
theorem dX12_held_119 : decode cX12_held 119 = .ok (.imul, 1) := by decide +kernel
theorem dX12_held_120 : decode cX12_held 120 = .ok (.iadd, 1) := by decide +kernel
theorem dX12_held_121 : decode cX12_held 121 = .ok (.iload 6, 2) := by decide +kernel
theorem dX12_held_123 : decode cX12_held 123 = .ok (.iadd, 1) := by decide +kernel
theorem dX12_held_124 : decode cX12_held 124 = .ok (.iaload, 1) := by decide +kernel
theorem dX12_held_125 : decode cX12_held 125 = .ok (.iastore, 1) := by decide +kernel
theorem dX12_held_126 : decode cX12_held 126 = .ok (.iload 5, 2) := by decide +kernel
theorem dX12_held_128 : decode cX12_held 128 = .ok (.ifCond .ne 22, 3) := by decide +kernel
theorem dX12_held_131 : decode cX12_held 131 = .ok (.aload_n 0, 1) := by decide +kernel
theorem dX12_held_132 : decode cX12_held 132 = .ok (.getfield 33, 3) := by decide +kernel
theorem dX12_held_135 : decode cX12_held 135 = .ok (.bipush 17, 2) := by decide +kernel
theorem dX12_held_137 : decode cX12_held 137 = .ok (.aload_n 0, 1) := by decide +kernel
theorem dX12_held_138 : decode cX12_held 138 = .ok (.getfield 117, 3) := by decide +kernel
theorem dX12_held_141 : decode cX12_held 141 = .ok (.iload 6, 2) := by decide +kernel
theorem dX12_held_143 : decode cX12_held 143 = .ok (.iaload, 1) := by decide +kernel
theorem dX12_held_144 : decode cX12_held 144 = .ok (.iadd, 1) := by decide +kernel
theorem dX12_held_145 : decode cX12_held 145 = .ok (.iaload, 1) := by decide +kernel
theorem dX12_held_146 : decode cX12_held 146 = .ok (.iload_n 1, 1) := by decide +kernel
theorem dX12_held_147 : decode cX12_held 147 = .ok (.if_icmp .ne 7, 3) := by decide +kernel
theorem dX12_held_150 : decode cX12_held 150 = .ok (.iconst 1, 1) := by decide +kernel
theorem dX12_held_151 : decode cX12_held 151 = .ok (.goto 4, 3) := by decide +kernel
theorem dX12_held_154 : decode cX12_held 154 = .ok (.iconst 0, 1) := by decide +kernel
theorem dX12_held_155 : decode cX12_held 155 = .ok (.istore 5, 2) := by decide +kernel
theorem dX12_held_157 : decode cX12_held 157 = .ok (.iinc 6 1, 3) := by decide +kernel
theorem dX12_held_160 : decode cX12_held 160 = .ok (.goto (-78), 3) := by decide +kernel
theorem dX12_held_163 : decode cX12_held 163 = .ok (.iconst 0, 1) := by decide +kernel
theorem dX12_held_164 : decode cX12_held 164 = .ok (.istore 6, 2) := by decide +kernel
theorem dX12_held_166 : decode cX12_held 166 = .ok (.iload 6, 2) := by decide +kernel
theorem dX12_held_168 : decode cX12_held 168 = .ok (.aload_n 0, 1) := by decide +kernel
theorem dX12_held_169 : decode cX12_held 169 = .ok (.getfield 33, 3) := by decide +kernel
theorem dX12_held_172 : decode cX12_held 172 = .ok (.bipush 15, 2) := by decide +kernel
theorem dX12_held_174 : decode cX12_held 174 = .ok (.iaload, 1) := by decide +kernel
theorem dX12_held_175 : decode cX12_held 175 = .ok (.if_icmp .ge 108, 3) := by decide +kernel
theorem dX12_held_178 : decode cX12_held 178 = .ok (.sipush 2507, 3) := by decide +kernel
theorem dX12_held_181 : decode cX12_held 181 = .ok (.iconst 4, 1) := by decide +kernel
theorem dX12_held_182 : decode cX12_held 182 = .ok (.iload 6, 2) := by decide +kernel
theorem dX12_held_184 : decode cX12_held 184 = .ok (.imul, 1) := by decide +kernel
theorem dX12_held_185 : decode cX12_held 185 = .ok (.iadd, 1) := by decide +kernel
theorem dX12_held_186 : decode cX12_held 186 = .ok (.istore 7, 2) := by decide +kernel
theorem dX12_held_188 : decode cX12_held 188 = .ok (.aload_n 0, 1) := by decide +kernel
theorem dX12_held_189 : decode cX12_held 189 = .ok (.getfield 33, 3) := by decide +kernel
theorem dX12_held_192 : decode cX12_held 192 = .ok (.iload 7, 2) := by decide +kernel
theorem dX12_held_194 : decode cX12_held 194 = .ok (.iaload, 1) := by decide +kernel
theorem dX12_held_195 : decode cX12_held 195 = .ok (.iload 4, 2) := by decide +kernel
theorem dX12_held_197 : decode cX12_held 197 = .ok (.if_icmp .ne 80, 3) := by decide +kernel
theorem dX12_held_200 : decode cX12_held 200 = .ok (.iload_n 2, 1) := by decide +kernel
theorem dX12_held_201 : decode cX12_held 201 = .ok (.iconst (-1), 1) := by decide +kernel
theorem dX12_held_202 : decode cX12_held 202 = .ok (.if_icmp .eq 19, 3) := by decide +kernel
theorem dX12_held_205 : decode cX12_held 205 = .ok (.aload_n 0, 1) := by decide +kernel
theorem dX12_held_206 : decode cX12_held 206 = .ok (.getfield 33, 3) := by decide +kernel
theorem dX12_held_209 : decode cX12_held 209 = .ok (.iload 7, 2) := by decide +kernel
theorem dX12_held_211 : decode cX12_held 211 = .ok (.iconst 3, 1) := by decide +kernel
theorem dX12_held_212 : decode cX12_held 212 = .ok (.iadd, 1) := by decide +kernel
theorem dX12_held_213 : decode cX12_held 213 = .ok (.iaload, 1) := by decide +kernel
theorem dX12_held_214 : decode cX12_held 214 = .ok (.iload_n 2, 1) := by decide +kernel
theorem dX12_held_215 : decode cX12_held 215 = .ok (.if_icmp .le 6, 3) := by decide +kernel
theorem dX12_held_218 : decode cX12_held 218 = .ok (.goto 59, 3) := by decide +kernel
theorem dX12_held_221 : decode cX12_held 221 = .ok (.aload_n 0, 1) := by decide +kernel
theorem dX12_held_222 : decode cX12_held 222 = .ok (.getfield 117, 3) := by decide +kernel
theorem dX12_held_225 : decode cX12_held 225 = .ok (.aload_n 0, 1) := by decide +kernel
theorem dX12_held_226 : decode cX12_held 226 = .ok (.getfield 33, 3) := by decide +kernel
theorem dX12_held_229 : decode cX12_held 229 = .ok (.iload 7, 2) := by decide +kernel
theorem dX12_held_231 : decode cX12_held 231 = .ok (.iconst 1, 1) := by decide +kernel
theorem dX12_held_232 : decode cX12_held 232 = .ok (.iadd, 1) := by decide +kernel
theorem dX12_held_233 : decode cX12_held 233 = .ok (.iaload, 1) := by decide +kernel
theorem dX12_held_234 : decode cX12_held 234 = .ok (.aload_n 0, 1) := by decide +kernel
theorem dX12_held_235 : decode cX12_held 235 = .ok (.getfield 33, 3) := by decide +kernel
theorem dX12_held_238 : decode cX12_held 238 = .ok (.iload 7, 2) := by decide +kernel
theorem dX12_held_240 : decode cX12_held 240 = .ok (.iconst 2, 1) := by decide +kernel
theorem dX12_held_241 : decode cX12_held 241 = .ok (.iadd, 1) := by decide +kernel
theorem dX12_held_242 : decode cX12_held 242 = .ok (.iaload, 1) := by decide +kernel
theorem dX12_held_243 : decode cX12_held 243 = .ok (.iastore, 1) := by decide +kernel
theorem dX12_held_244 : decode cX12_held 244 = .ok (.iload 5, 2) := by decide +kernel
theorem dX12_held_246 : decode cX12_held 246 = .ok (.ifCond .ne 24, 3) := by decide +kernel
theorem dX12_held_249 : decode cX12_held 249 = .ok (.aload_n 0, 1) := by decide +kernel
theorem dX12_held_250 : decode cX12_held 250 = .ok (.getfield 33, 3) := by decide +kernel
theorem dX12_held_253 : decode cX12_held 253 = .ok (.bipush 17, 2) := by decide +kernel
theorem dX12_held_255 : decode cX12_held 255 = .ok (.aload_n 0, 1) := by decide +kernel
theorem dX12_held_256 : decode cX12_held 256 = .ok (.getfield 33, 3) := by decide +kernel
theorem dX12_held_259 : decode cX12_held 259 = .ok (.iload 7, 2) := by decide +kernel
theorem dX12_held_261 : decode cX12_held 261 = .ok (.iconst 2, 1) := by decide +kernel
theorem dX12_held_262 : decode cX12_held 262 = .ok (.iadd, 1) := by decide +kernel
theorem dX12_held_263 : decode cX12_held 263 = .ok (.iaload, 1) := by decide +kernel
theorem dX12_held_264 : decode cX12_held 264 = .ok (.iadd, 1) := by decide +kernel
theorem dX12_held_265 : decode cX12_held 265 = .ok (.iaload, 1) := by decide +kernel
theorem dX12_held_266 : decode cX12_held 266 = .ok (.iload_n 1, 1) := by decide +kernel
theorem dX12_held_267 : decode cX12_held 267 = .ok (.if_icmp .ne 7, 3) := by decide +kernel
theorem dX12_held_270 : decode cX12_held 270 = .ok (.iconst 1, 1) := by decide +kernel
theorem dX12_held_271 : decode cX12_held 271 = .ok (.goto 4, 3) := by decide +kernel
theorem dX12_held_274 : decode cX12_held 274 = .ok (.iconst 0, 1) := by decide +kernel
theorem dX12_held_275 : decode cX12_held 275 = .ok (.istore 5, 2) := by decide +kernel
theorem dX12_held_277 : decode cX12_held 277 = .ok (.iinc 6 1, 3) := by decide +kernel
theorem dX12_held_280 : decode cX12_held 280 = .ok (.goto (-114), 3) := by decide +kernel
theorem dX12_held_283 : decode cX12_held 283 = .ok (.iconst 0, 1) := by decide +kernel
theorem dX12_held_284 : decode cX12_held 284 = .ok (.istore 6, 2) := by decide +kernel
theorem dX12_held_286 : decode cX12_held 286 = .ok (.iconst 0, 1) := by decide +kernel
theorem dX12_held_287 : decode cX12_held 287 = .ok (.istore 7, 2) := by decide +kernel
theorem dX12_held_289 : decode cX12_held 289 = .ok (.iload 7, 2) := by decide +kernel
theorem dX12_held_291 : decode cX12_held 291 = .ok (.aload_n 0, 1) := by decide +kernel
theorem dX12_held_292 : decode cX12_held 292 = .ok (.getfield 33, 3) := by decide +kernel
theorem dX12_held_295 : decode cX12_held 295 = .ok (.sipush 1677, 3) := by decide +kernel
theorem dX12_held_298 : decode cX12_held 298 = .ok (.iconst 3, 1) := by decide +kernel
theorem dX12_held_299 : decode cX12_held 299 = .ok (.iload 4, 2) := by decide +kernel
theorem dX12_held_301 : decode cX12_held 301 = .ok (.imul, 1) := by decide +kernel
theorem dX12_held_302 : decode cX12_held 302 = .ok (.iadd, 1) := by decide +kernel
theorem dX12_held_303 : decode cX12_held 303 = .ok (.iconst 2, 1) := by decide +kernel
theorem dX12_held_304 : decode cX12_held 304 = .ok (.iadd, 1) := by decide +kernel
theorem dX12_held_305 : decode cX12_held 305 = .ok (.iaload, 1) := by decide +kernel
theorem dX12_held_306 : decode cX12_held 306 = .ok (.if_icmp .ge 40, 3) := by decide +kernel
theorem dX12_held_309 : decode cX12_held 309 = .ok (.iload 6, 2) := by decide +kernel
theorem dX12_held_311 : decode cX12_held 311 = .ok (.ifCond .ne 22, 3) := by decide +kernel
theorem dX12_held_314 : decode cX12_held 314 = .ok (.aload_n 0, 1) := by decide +kernel
theorem dX12_held_315 : decode cX12_held 315 = .ok (.getfield 33, 3) := by decide +kernel
theorem dX12_held_318 : decode cX12_held 318 = .ok (.bipush 17, 2) := by decide +kernel
theorem dX12_held_320 : decode cX12_held 320 = .ok (.aload_n 0, 1) := by decide +kernel
theorem dX12_held_321 : decode cX12_held 321 = .ok (.getfield 117, 3) := by decide +kernel
theorem dX12_held_324 : decode cX12_held 324 = .ok (.iload 7, 2) := by decide +kernel
theorem dX12_held_326 : decode cX12_held 326 = .ok (.iaload, 1) := by decide +kernel
theorem dX12_held_327 : decode cX12_held 327 = .ok (.iadd, 1) := by decide +kernel
theorem dX12_held_328 : decode cX12_held 328 = .ok (.iaload, 1) := by decide +kernel
theorem dX12_held_329 : decode cX12_held 329 = .ok (.iload_n 1, 1) := by decide +kernel
theorem dX12_held_330 : decode cX12_held 330 = .ok (.if_icmp .ne 7, 3) := by decide +kernel
theorem dX12_held_333 : decode cX12_held 333 = .ok (.iconst 1, 1) := by decide +kernel
theorem dX12_held_334 : decode cX12_held 334 = .ok (.goto 4, 3) := by decide +kernel
theorem dX12_held_337 : decode cX12_held 337 = .ok (.iconst 0, 1) := by decide +kernel
theorem dX12_held_338 : decode cX12_held 338 = .ok (.istore 6, 2) := by decide +kernel
theorem dX12_held_340 : decode cX12_held 340 = .ok (.iinc 7 1, 3) := by decide +kernel
theorem dX12_held_343 : decode cX12_held 343 = .ok (.goto (-54), 3) := by decide +kernel
theorem dX12_held_346 : decode cX12_held 346 = .ok (.iload_n 3, 1) := by decide +kernel
theorem dX12_held_347 : decode cX12_held 347 = .ok (.iload_n 2, 1) := by decide +kernel
theorem dX12_held_348 : decode cX12_held 348 = .ok (.iconst (-1), 1) := by decide +kernel
theorem dX12_held_349 : decode cX12_held 349 = .ok (.if_icmp .ne 11, 3) := by decide +kernel
theorem dX12_held_352 : decode cX12_held 352 = .ok (.iload 5, 2) := by decide +kernel
theorem dX12_held_354 : decode cX12_held 354 = .ok (.ifCond .eq 18, 3) := by decide +kernel
theorem dX12_held_357 : decode cX12_held 357 = .ok (.goto 8, 3) := by decide +kernel
theorem dX12_held_360 : decode cX12_held 360 = .ok (.iload 6, 2) := by decide +kernel
theorem dX12_held_362 : decode cX12_held 362 = .ok (.ifCond .eq 10, 3) := by decide +kernel
theorem dX12_held_365 : decode cX12_held 365 = .ok (.iconst 1, 1) := by decide +kernel
theorem dX12_held_366 : decode cX12_held 366 = .ok (.iload 4, 2) := by decide +kernel
theorem dX12_held_368 : decode cX12_held 368 = .ok (.ishl, 1) := by decide +kernel
theorem dX12_held_369 : decode cX12_held 369 = .ok (.goto 4, 3) := by decide +kernel
theorem dX12_held_372 : decode cX12_held 372 = .ok (.iconst 0, 1) := by decide +kernel
theorem dX12_held_373 : decode cX12_held 373 = .ok (.ior, 1) := by decide +kernel
theorem dX12_held_374 : decode cX12_held 374 = .ok (.istore_n 3, 1) := by decide +kernel
theorem dX12_held_375 : decode cX12_held 375 = .ok (.iinc 4 1, 3) := by decide +kernel
theorem dX12_held_378 : decode cX12_held 378 = .ok (.goto (-339), 3) := by decide +kernel
theorem dX12_held_381 : decode cX12_held 381 = .ok (.iload_n 3, 1) := by decide +kernel
theorem dX12_held_382 : decode cX12_held 382 = .ok (.ireturn, 1) := by decide +kernel
theorem dX12_node_0 : decode cX12_node 0 = .ok (.aload_n 0, 1) := by decide +kernel
theorem dX12_node_1 : decode cX12_node 1 = .ok (.getfield 230, 3) := by decide +kernel
theorem dX12_node_4 : decode cX12_node 4 = .ok (.iconst 2, 1) := by decide +kernel
theorem dX12_node_5 : decode cX12_node 5 = .ok (.if_icmp .eq 9, 3) := by decide +kernel
theorem dX12_node_8 : decode cX12_node 8 = .ok (.aload_n 0, 1) := by decide +kernel
theorem dX12_node_9 : decode cX12_node 9 = .ok (.iconst 1, 1) := by decide +kernel
theorem dX12_node_10 : decode cX12_node 10 = .ok (.invokevirtual 256, 3) := by decide +kernel
theorem dX12_node_13 : decode cX12_node 13 = .ok (.ireturn, 1) := by decide +kernel
theorem dX12_node_14 : decode cX12_node 14 = .ok (.aload_n 0, 1) := by decide +kernel
theorem dX12_node_15 : decode cX12_node 15 = .ok (.getfield 240, 3) := by decide +kernel
theorem dX12_node_18 : decode cX12_node 18 = .ok (.bipush 59, 2) := by decide +kernel
theorem dX12_node_20 : decode cX12_node 20 = .ok (.if_icmp .le 9, 3) := by decide +kernel
theorem dX12_node_23 : decode cX12_node 23 = .ok (.aload_n 0, 1) := by decide +kernel
theorem dX12_node_24 : decode cX12_node 24 = .ok (.iconst 2, 1) := by decide +kernel
theorem dX12_node_25 : decode cX12_node 25 = .ok (.invokevirtual 256, 3) := by decide +kernel
theorem dX12_node_28 : decode cX12_node 28 = .ok (.ireturn, 1) := by decide +kernel
theorem dX12_node_29 : decode cX12_node 29 = .ok (.aload_n 0, 1) := by decide +kernel
theorem dX12_node_30 : decode cX12_node 30 = .ok (.getfield 240, 3) := by decide +kernel
theorem dX12_node_33 : decode cX12_node 33 = .ok (.istore_n 1, 1) := by decide +kernel
theorem dX12_node_34 : decode cX12_node 34 = .ok (.aload_n 0, 1) := by decide +kernel
theorem dX12_node_35 : decode cX12_node 35 = .ok (.invokevirtual 259, 3) := by decide +kernel
theorem dX12_node_38 : decode cX12_node 38 = .ok (.aload_n 0, 1) := by decide +kernel
theorem dX12_node_39 : decode cX12_node 39 = .ok (.bipush 43, 2) := by decide +kernel
theorem dX12_node_41 : decode cX12_node 41 = .ok (.invokevirtual 253, 3) := by decide +kernel
theorem dX12_node_44 : decode cX12_node 44 = .ok (.ifCond .ne 18, 3) := by decide +kernel
theorem dX12_node_47 : decode cX12_node 47 = .ok (.aload_n 0, 1) := by decide +kernel
theorem dX12_node_48 : decode cX12_node 48 = .ok (.bipush 45, 2) := by decide +kernel
theorem dX12_node_50 : decode cX12_node 50 = .ok (.invokevirtual 253, 3) := by decide +kernel
theorem dX12_node_53 : decode cX12_node 53 = .ok (.ifCond .ne 9, 3) := by decide +kernel
theorem dX12_node_56 : decode cX12_node 56 = .ok (.aload_n 0, 1) := by decide +kernel
theorem dX12_node_57 : decode cX12_node 57 = .ok (.iconst 1, 1) := by decide +kernel
theorem dX12_node_58 : decode cX12_node 58 = .ok (.invokevirtual 256, 3) := by decide +kernel
theorem dX12_node_61 : decode cX12_node 61 = .ok (.ireturn, 1) := by decide +kernel
theorem dX12_node_62 : decode cX12_node 62 = .ok (.aload_n 0, 1) := by decide +kernel
theorem dX12_node_63 : decode cX12_node 63 = .ok (.iconst 2, 1) := by decide +kernel
theorem dX12_node_64 : decode cX12_node 64 = .ok (.iload_n 1, 1) := by decide +kernel
theorem dX12_node_65 : decode cX12_node 65 = .ok (.imul, 1) := by decide +kernel
theorem dX12_node_66 : decode cX12_node 66 = .ok (.aload_n 0, 1) := by decide +kernel
theorem dX12_node_67 : decode cX12_node 67 = .ok (.bipush 43, 2) := by decide +kernel
theorem dX12_node_69 : decode cX12_node 69 = .ok (.invokevirtual 253, 3) := by decide +kernel
theorem dX12_node_72 : decode cX12_node 72 = .ok (.ifCond .eq 7, 3) := by decide +kernel
theorem dX12_node_75 : decode cX12_node 75 = .ok (.iconst 1, 1) := by decide +kernel
theorem dX12_node_76 : decode cX12_node 76 = .ok (.goto 4, 3) := by decide +kernel
theorem dX12_node_79 : decode cX12_node 79 = .ok (.iconst 0, 1) := by decide +kernel
theorem dX12_node_80 : decode cX12_node 80 = .ok (.iadd, 1) := by decide +kernel
theorem dX12_node_81 : decode cX12_node 81 = .ok (.putfield 266, 3) := by decide +kernel
theorem dX12_node_84 : decode cX12_node 84 = .ok (.aload_n 0, 1) := by decide +kernel
theorem dX12_node_85 : decode cX12_node 85 = .ok (.invokevirtual 259, 3) := by decide +kernel
theorem dX12_node_88 : decode cX12_node 88 = .ok (.iconst 1, 1) := by decide +kernel
theorem dX12_node_89 : decode cX12_node 89 = .ok (.ireturn, 1) := by decide +kernel
theorem dX12_strip_0 : decode cX12_strip 0 = .ok (.iconst 0, 1) := by decide +kernel
theorem dX12_strip_1 : decode cX12_strip 1 = .ok (.istore_n 1, 1) := by decide +kernel
theorem dX12_strip_2 : decode cX12_strip 2 = .ok (.iload_n 1, 1) := by decide +kernel
theorem dX12_strip_3 : decode cX12_strip 3 = .ok (.aload_n 0, 1) := by decide +kernel
theorem dX12_strip_4 : decode cX12_strip 4 = .ok (.getfield 141, 3) := by decide +kernel
theorem dX12_strip_7 : decode cX12_strip 7 = .ok (.iconst 1, 1) := by decide +kernel
theorem dX12_strip_8 : decode cX12_strip 8 = .ok (.iaload, 1) := by decide +kernel
theorem dX12_strip_9 : decode cX12_strip 9 = .ok (.if_icmp .ge 28, 3) := by decide +kernel
theorem dX12_strip_12 : decode cX12_strip 12 = .ok (.aload_n 0, 1) := by decide +kernel
theorem dX12_strip_13 : decode cX12_strip 13 = .ok (.getfield 120, 3) := by decide +kernel
theorem dX12_strip_16 : decode cX12_strip 16 = .ok (.bipush 12, 2) := by decide +kernel
theorem dX12_strip_18 : decode cX12_strip 18 = .ok (.iload_n 1, 1) := by decide +kernel
theorem dX12_strip_19 : decode cX12_strip 19 = .ok (.iadd, 1) := by decide +kernel
theorem dX12_strip_20 : decode cX12_strip 20 = .ok (.laload, 1) := by decide +kernel
theorem dX12_strip_21 : decode cX12_strip 21 = .ok (.aload_n 0, 1) := by decide +kernel
theorem dX12_strip_22 : decode cX12_strip 22 = .ok (.getfield 243, 3) := by decide +kernel
theorem dX12_strip_25 : decode cX12_strip 25 = .ok (.lcmp, 1) := by decide +kernel
theorem dX12_strip_26 : decode cX12_strip 26 = .ok (.ifCond .ne 5, 3) := by decide +kernel
theorem dX12_strip_29 : decode cX12_strip 29 = .ok (.iload_n 1, 1) := by decide +kernel
theorem dX12_strip_30 : decode cX12_strip 30 = .ok (.ireturn, 1) := by decide +kernel
theorem dX12_strip_31 : decode cX12_strip 31 = .ok (.iinc 1 1, 3) := by decide +kernel
theorem dX12_strip_34 : decode cX12_strip 34 = .ok (.goto (-32), 3) := by decide +kernel
theorem dX12_strip_37 : decode cX12_strip 37 = .ok (.iconst (-1), 1) := by decide +kernel
theorem dX12_strip_38 : decode cX12_strip 38 = .ok (.ireturn, 1) := by decide +kernel
theorem dX12_readStrip_0 : decode cX12_readStrip 0 = .ok (.aload_n 0, 1) := by decide +kernel
theorem dX12_readStrip_1 : decode cX12_readStrip 1 = .ok (.ldc2_w 211, 3) := by decide +kernel
theorem dX12_readStrip_4 : decode cX12_readStrip 4 = .ok (.invokevirtual 283, 3) := by decide +kernel
theorem dX12_readStrip_7 : decode cX12_readStrip 7 = .ok (.ifCond .ne 9, 3) := by decide +kernel
theorem dX12_readStrip_10 : decode cX12_readStrip 10 = .ok (.aload_n 0, 1) := by decide +kernel
theorem dX12_readStrip_11 : decode cX12_readStrip 11 = .ok (.iconst 1, 1) := by decide +kernel
theorem dX12_readStrip_12 : decode cX12_readStrip 12 = .ok (.invokevirtual 256, 3) := by decide +kernel
theorem dX12_readStrip_15 : decode cX12_readStrip 15 = .ok (.ireturn, 1) := by decide +kernel
theorem dX12_readStrip_16 : decode cX12_readStrip 16 = .ok (.aload_n 0, 1) := by decide +kernel
theorem dX12_readStrip_17 : decode cX12_readStrip 17 = .ok (.getfield 141, 3) := by decide +kernel
theorem dX12_readStrip_20 : decode cX12_readStrip 20 = .ok (.iconst 1, 1) := by decide +kernel
theorem dX12_readStrip_21 : decode cX12_readStrip 21 = .ok (.iaload, 1) := by decide +kernel
theorem dX12_readStrip_22 : decode cX12_readStrip 22 = .ok (.bipush 12, 2) := by decide +kernel
theorem dX12_readStrip_24 : decode cX12_readStrip 24 = .ok (.if_icmp .ne 9, 3) := by decide +kernel
theorem dX12_readStrip_27 : decode cX12_readStrip 27 = .ok (.aload_n 0, 1) := by decide +kernel
theorem dX12_readStrip_28 : decode cX12_readStrip 28 = .ok (.iconst 4, 1) := by decide +kernel
theorem dX12_readStrip_29 : decode cX12_readStrip 29 = .ok (.invokevirtual 256, 3) := by decide +kernel
theorem dX12_readStrip_32 : decode cX12_readStrip 32 = .ok (.ireturn, 1) := by decide +kernel
theorem dX12_readStrip_33 : decode cX12_readStrip 33 = .ok (.aload_n 0, 1) := by decide +kernel
theorem dX12_readStrip_34 : decode cX12_readStrip 34 = .ok (.invokevirtual 259, 3) := by decide +kernel
theorem dX12_readStrip_37 : decode cX12_readStrip 37 = .ok (.aload_n 0, 1) := by decide +kernel
theorem dX12_readStrip_38 : decode cX12_readStrip 38 = .ok (.invokevirtual 269, 3) := by decide +kernel
theorem dX12_readStrip_41 : decode cX12_readStrip 41 = .ok (.ifCond .ne 9, 3) := by decide +kernel
theorem dX12_readStrip_44 : decode cX12_readStrip 44 = .ok (.aload_n 0, 1) := by decide +kernel
theorem dX12_readStrip_45 : decode cX12_readStrip 45 = .ok (.iconst 1, 1) := by decide +kernel
theorem dX12_readStrip_46 : decode cX12_readStrip 46 = .ok (.invokevirtual 256, 3) := by decide +kernel
theorem dX12_readStrip_49 : decode cX12_readStrip 49 = .ok (.ireturn, 1) := by decide +kernel
theorem dX12_readStrip_50 : decode cX12_readStrip 50 = .ok (.aload_n 0, 1) := by decide +kernel
theorem dX12_readStrip_51 : decode cX12_readStrip 51 = .ok (.invokevirtual 507, 3) := by decide +kernel
theorem dX12_readStrip_54 : decode cX12_readStrip 54 = .ok (.ifCond .lt 9, 3) := by decide +kernel
theorem dX12_readStrip_57 : decode cX12_readStrip 57 = .ok (.aload_n 0, 1) := by decide +kernel
theorem dX12_readStrip_58 : decode cX12_readStrip 58 = .ok (.iconst 3, 1) := by decide +kernel
theorem dX12_readStrip_59 : decode cX12_readStrip 59 = .ok (.invokevirtual 256, 3) := by decide +kernel
theorem dX12_readStrip_62 : decode cX12_readStrip 62 = .ok (.ireturn, 1) := by decide +kernel
theorem dX12_readStrip_63 : decode cX12_readStrip 63 = .ok (.bipush 12, 2) := by decide +kernel
theorem dX12_readStrip_65 : decode cX12_readStrip 65 = .ok (.aload_n 0, 1) := by decide +kernel
theorem dX12_readStrip_66 : decode cX12_readStrip 66 = .ok (.getfield 141, 3) := by decide +kernel
theorem dX12_readStrip_69 : decode cX12_readStrip 69 = .ok (.iconst 1, 1) := by decide +kernel
theorem dX12_readStrip_70 : decode cX12_readStrip 70 = .ok (.iaload, 1) := by decide +kernel
theorem dX12_readStrip_71 : decode cX12_readStrip 71 = .ok (.iadd, 1) := by decide +kernel
theorem dX12_readStrip_72 : decode cX12_readStrip 72 = .ok (.istore_n 1, 1) := by decide +kernel
theorem dX12_readStrip_73 : decode cX12_readStrip 73 = .ok (.aload_n 0, 1) := by decide +kernel
theorem dX12_readStrip_74 : decode cX12_readStrip 74 = .ok (.getfield 243, 3) := by decide +kernel
theorem dX12_readStrip_77 : decode cX12_readStrip 77 = .ok (.lstore_n 2, 1) := by decide +kernel
theorem dX12_readStrip_78 : decode cX12_readStrip 78 = .ok (.aload_n 0, 1) := by decide +kernel
theorem dX12_readStrip_79 : decode cX12_readStrip 79 = .ok (.invokevirtual 259, 3) := by decide +kernel
theorem dX12_readStrip_82 : decode cX12_readStrip 82 = .ok (.aload_n 0, 1) := by decide +kernel
theorem dX12_readStrip_83 : decode cX12_readStrip 83 = .ok (.invokevirtual 510, 3) := by decide +kernel
theorem dX12_readStrip_86 : decode cX12_readStrip 86 = .ok (.ifCond .ne 5, 3) := by decide +kernel
theorem dX12_readStrip_89 : decode cX12_readStrip 89 = .ok (.iconst 0, 1) := by decide +kernel
theorem dX12_readStrip_90 : decode cX12_readStrip 90 = .ok (.ireturn, 1) := by decide +kernel
theorem dX12_readStrip_91 : decode cX12_readStrip 91 = .ok (.aload_n 0, 1) := by decide +kernel
theorem dX12_readStrip_92 : decode cX12_readStrip 92 = .ok (.getfield 123, 3) := by decide +kernel
theorem dX12_readStrip_95 : decode cX12_readStrip 95 = .ok (.iload_n 1, 1) := by decide +kernel
theorem dX12_readStrip_96 : decode cX12_readStrip 96 = .ok (.aload_n 0, 1) := by decide +kernel
theorem dX12_readStrip_97 : decode cX12_readStrip 97 = .ok (.getfield 266, 3) := by decide +kernel
theorem dX12_readStrip_100 : decode cX12_readStrip 100 = .ok (.iastore, 1) := by decide +kernel
theorem dX12_readStrip_101 : decode cX12_readStrip 101 = .ok (.aload_n 0, 1) := by decide +kernel
theorem dX12_readStrip_102 : decode cX12_readStrip 102 = .ok (.invokevirtual 510, 3) := by decide +kernel
theorem dX12_readStrip_105 : decode cX12_readStrip 105 = .ok (.ifCond .ne 5, 3) := by decide +kernel
theorem dX12_readStrip_108 : decode cX12_readStrip 108 = .ok (.iconst 0, 1) := by decide +kernel
theorem dX12_readStrip_109 : decode cX12_readStrip 109 = .ok (.ireturn, 1) := by decide +kernel
theorem dX12_readStrip_110 : decode cX12_readStrip 110 = .ok (.aload_n 0, 1) := by decide +kernel
theorem dX12_readStrip_111 : decode cX12_readStrip 111 = .ok (.getfield 126, 3) := by decide +kernel
theorem dX12_readStrip_114 : decode cX12_readStrip 114 = .ok (.iload_n 1, 1) := by decide +kernel
theorem dX12_readStrip_115 : decode cX12_readStrip 115 = .ok (.aload_n 0, 1) := by decide +kernel
theorem dX12_readStrip_116 : decode cX12_readStrip 116 = .ok (.getfield 266, 3) := by decide +kernel
theorem dX12_readStrip_119 : decode cX12_readStrip 119 = .ok (.iastore, 1) := by decide +kernel
theorem dX12_readStrip_120 : decode cX12_readStrip 120 = .ok (.aload_n 0, 1) := by decide +kernel
theorem dX12_readStrip_121 : decode cX12_readStrip 121 = .ok (.getfield 129, 3) := by decide +kernel
theorem dX12_readStrip_124 : decode cX12_readStrip 124 = .ok (.iload_n 1, 1) := by decide +kernel
theorem dX12_readStrip_125 : decode cX12_readStrip 125 = .ok (.iconst 0, 1) := by decide +kernel
theorem dX12_readStrip_126 : decode cX12_readStrip 126 = .ok (.iastore, 1) := by decide +kernel
theorem dX12_readStrip_127 : decode cX12_readStrip 127 = .ok (.aload_n 0, 1) := by decide +kernel
theorem dX12_readStrip_128 : decode cX12_readStrip 128 = .ok (.ldc2_w 213, 3) := by decide +kernel
theorem dX12_readStrip_131 : decode cX12_readStrip 131 = .ok (.invokevirtual 283, 3) := by decide +kernel
theorem dX12_readStrip_134 : decode cX12_readStrip 134 = .ok (.ifCond .eq 59, 3) := by decide +kernel
theorem dX12_readStrip_137 : decode cX12_readStrip 137 = .ok (.aload_n 0, 1) := by decide +kernel
theorem dX12_readStrip_138 : decode cX12_readStrip 138 = .ok (.invokevirtual 259, 3) := by decide +kernel
theorem dX12_readStrip_141 : decode cX12_readStrip 141 = .ok (.aload_n 0, 1) := by decide +kernel
theorem dX12_readStrip_142 : decode cX12_readStrip 142 = .ok (.invokevirtual 269, 3) := by decide +kernel
theorem dX12_readStrip_145 : decode cX12_readStrip 145 = .ok (.ifCond .ne 9, 3) := by decide +kernel
theorem dX12_readStrip_148 : decode cX12_readStrip 148 = .ok (.aload_n 0, 1) := by decide +kernel
theorem dX12_readStrip_149 : decode cX12_readStrip 149 = .ok (.iconst 1, 1) := by decide +kernel
theorem dX12_readStrip_150 : decode cX12_readStrip 150 = .ok (.invokevirtual 256, 3) := by decide +kernel
theorem dX12_readStrip_153 : decode cX12_readStrip 153 = .ok (.ireturn, 1) := by decide +kernel
theorem dX12_readStrip_154 : decode cX12_readStrip 154 = .ok (.aload_n 0, 1) := by decide +kernel
theorem dX12_readStrip_155 : decode cX12_readStrip 155 = .ok (.invokevirtual 507, 3) := by decide +kernel
theorem dX12_readStrip_158 : decode cX12_readStrip 158 = .ok (.ifCond .ge 9, 3) := by decide +kernel
theorem dX12_readStrip_161 : decode cX12_readStrip 161 = .ok (.aload_n 0, 1) := by decide +kernel
theorem dX12_readStrip_162 : decode cX12_readStrip 162 = .ok (.iconst 3, 1) := by decide +kernel
theorem dX12_readStrip_163 : decode cX12_readStrip 163 = .ok (.invokevirtual 256, 3) := by decide +kernel
theorem dX12_readStrip_166 : decode cX12_readStrip 166 = .ok (.ireturn, 1) := by decide +kernel
theorem dX12_readStrip_167 : decode cX12_readStrip 167 = .ok (.aload_n 0, 1) := by decide +kernel
theorem dX12_readStrip_168 : decode cX12_readStrip 168 = .ok (.getfield 129, 3) := by decide +kernel
theorem dX12_readStrip_171 : decode cX12_readStrip 171 = .ok (.iload_n 1, 1) := by decide +kernel
theorem dX12_readStrip_172 : decode cX12_readStrip 172 = .ok (.aload_n 0, 1) := by decide +kernel
theorem dX12_readStrip_173 : decode cX12_readStrip 173 = .ok (.getfield 129, 3) := by decide +kernel
theorem dX12_readStrip_176 : decode cX12_readStrip 176 = .ok (.iload_n 1, 1) := by decide +kernel
theorem dX12_readStrip_177 : decode cX12_readStrip 177 = .ok (.iaload, 1) := by decide +kernel
theorem dX12_readStrip_178 : decode cX12_readStrip 178 = .ok (.iconst 1, 1) := by decide +kernel
theorem dX12_readStrip_179 : decode cX12_readStrip 179 = .ok (.aload_n 0, 1) := by decide +kernel
theorem dX12_readStrip_180 : decode cX12_readStrip 180 = .ok (.invokevirtual 507, 3) := by decide +kernel
theorem dX12_readStrip_183 : decode cX12_readStrip 183 = .ok (.ishl, 1) := by decide +kernel
theorem dX12_readStrip_184 : decode cX12_readStrip 184 = .ok (.ior, 1) := by decide +kernel
theorem dX12_readStrip_185 : decode cX12_readStrip 185 = .ok (.iastore, 1) := by decide +kernel
theorem dX12_readStrip_186 : decode cX12_readStrip 186 = .ok (.aload_n 0, 1) := by decide +kernel
theorem dX12_readStrip_187 : decode cX12_readStrip 187 = .ok (.invokevirtual 259, 3) := by decide +kernel
theorem dX12_readStrip_190 : decode cX12_readStrip 190 = .ok (.goto (-63), 3) := by decide +kernel
theorem dX12_readStrip_193 : decode cX12_readStrip 193 = .ok (.aload_n 0, 1) := by decide +kernel
theorem dX12_readStrip_194 : decode cX12_readStrip 194 = .ok (.ldc2_w 215, 3) := by decide +kernel
theorem dX12_readStrip_197 : decode cX12_readStrip 197 = .ok (.invokevirtual 283, 3) := by decide +kernel
theorem dX12_readStrip_200 : decode cX12_readStrip 200 = .ok (.ifCond .eq 84, 3) := by decide +kernel
theorem dX12_readStrip_203 : decode cX12_readStrip 203 = .ok (.aload_n 0, 1) := by decide +kernel
theorem dX12_readStrip_204 : decode cX12_readStrip 204 = .ok (.invokevirtual 259, 3) := by decide +kernel
theorem dX12_readStrip_207 : decode cX12_readStrip 207 = .ok (.bipush 80, 2) := by decide +kernel
theorem dX12_readStrip_209 : decode cX12_readStrip 209 = .ok (.aload_n 0, 1) := by decide +kernel
theorem dX12_readStrip_210 : decode cX12_readStrip 210 = .ok (.getfield 144, 3) := by decide +kernel
theorem dX12_readStrip_213 : decode cX12_readStrip 213 = .ok (.iconst 1, 1) := by decide +kernel
theorem dX12_readStrip_214 : decode cX12_readStrip 214 = .ok (.iaload, 1) := by decide +kernel
theorem dX12_readStrip_215 : decode cX12_readStrip 215 = .ok (.iadd, 1) := by decide +kernel
theorem dX12_readStrip_216 : decode cX12_readStrip 216 = .ok (.istore 4, 2) := by decide +kernel
theorem dX12_readStrip_218 : decode cX12_readStrip 218 = .ok (.aload_n 0, 1) := by decide +kernel
theorem dX12_readStrip_219 : decode cX12_readStrip 219 = .ok (.invokevirtual 510, 3) := by decide +kernel
theorem dX12_readStrip_222 : decode cX12_readStrip 222 = .ok (.ifCond .ne 5, 3) := by decide +kernel
theorem dX12_readStrip_225 : decode cX12_readStrip 225 = .ok (.iconst 0, 1) := by decide +kernel
theorem dX12_readStrip_226 : decode cX12_readStrip 226 = .ok (.ireturn, 1) := by decide +kernel
theorem dX12_readStrip_227 : decode cX12_readStrip 227 = .ok (.aload_n 0, 1) := by decide +kernel
theorem dX12_readStrip_228 : decode cX12_readStrip 228 = .ok (.getfield 135, 3) := by decide +kernel
theorem dX12_readStrip_231 : decode cX12_readStrip 231 = .ok (.iload 4, 2) := by decide +kernel
theorem dX12_readStrip_233 : decode cX12_readStrip 233 = .ok (.aload_n 0, 1) := by decide +kernel
theorem dX12_readStrip_234 : decode cX12_readStrip 234 = .ok (.getfield 266, 3) := by decide +kernel
theorem dX12_readStrip_237 : decode cX12_readStrip 237 = .ok (.iastore, 1) := by decide +kernel
theorem dX12_readStrip_238 : decode cX12_readStrip 238 = .ok (.aload_n 0, 1) := by decide +kernel
theorem dX12_readStrip_239 : decode cX12_readStrip 239 = .ok (.invokevirtual 510, 3) := by decide +kernel
theorem dX12_readStrip_242 : decode cX12_readStrip 242 = .ok (.ifCond .ne 5, 3) := by decide +kernel
theorem dX12_readStrip_245 : decode cX12_readStrip 245 = .ok (.iconst 0, 1) := by decide +kernel
theorem dX12_readStrip_246 : decode cX12_readStrip 246 = .ok (.ireturn, 1) := by decide +kernel
theorem dX12_readStrip_247 : decode cX12_readStrip 247 = .ok (.aload_n 0, 1) := by decide +kernel
theorem dX12_readStrip_248 : decode cX12_readStrip 248 = .ok (.getfield 138, 3) := by decide +kernel
theorem dX12_readStrip_251 : decode cX12_readStrip 251 = .ok (.iload 4, 2) := by decide +kernel
theorem dX12_readStrip_253 : decode cX12_readStrip 253 = .ok (.aload_n 0, 1) := by decide +kernel
theorem dX12_readStrip_254 : decode cX12_readStrip 254 = .ok (.getfield 266, 3) := by decide +kernel
theorem dX12_readStrip_257 : decode cX12_readStrip 257 = .ok (.iastore, 1) := by decide +kernel
theorem dX12_readStrip_258 : decode cX12_readStrip 258 = .ok (.aload_n 0, 1) := by decide +kernel
theorem dX12_readStrip_259 : decode cX12_readStrip 259 = .ok (.getfield 132, 3) := by decide +kernel
theorem dX12_readStrip_262 : decode cX12_readStrip 262 = .ok (.iload 4, 2) := by decide +kernel
theorem dX12_readStrip_264 : decode cX12_readStrip 264 = .ok (.aload_n 0, 1) := by decide +kernel
theorem dX12_readStrip_265 : decode cX12_readStrip 265 = .ok (.getfield 141, 3) := by decide +kernel
theorem dX12_readStrip_268 : decode cX12_readStrip 268 = .ok (.iconst 1, 1) := by decide +kernel
theorem dX12_readStrip_269 : decode cX12_readStrip 269 = .ok (.iaload, 1) := by decide +kernel
theorem dX12_readStrip_270 : decode cX12_readStrip 270 = .ok (.iastore, 1) := by decide +kernel
theorem dX12_readStrip_271 : decode cX12_readStrip 271 = .ok (.aload_n 0, 1) := by decide +kernel
theorem dX12_readStrip_272 : decode cX12_readStrip 272 = .ok (.getfield 144, 3) := by decide +kernel
theorem dX12_readStrip_275 : decode cX12_readStrip 275 = .ok (.iconst 1, 1) := by decide +kernel
theorem dX12_readStrip_276 : decode cX12_readStrip 276 = .ok (.dup2, 1) := by decide +kernel
theorem dX12_readStrip_277 : decode cX12_readStrip 277 = .ok (.iaload, 1) := by decide +kernel
theorem dX12_readStrip_278 : decode cX12_readStrip 278 = .ok (.iconst 1, 1) := by decide +kernel
theorem dX12_readStrip_279 : decode cX12_readStrip 279 = .ok (.iadd, 1) := by decide +kernel
theorem dX12_readStrip_280 : decode cX12_readStrip 280 = .ok (.iastore, 1) := by decide +kernel
theorem dX12_readStrip_281 : decode cX12_readStrip 281 = .ok (.goto (-88), 3) := by decide +kernel
theorem dX12_readStrip_284 : decode cX12_readStrip 284 = .ok (.aload_n 0, 1) := by decide +kernel
theorem dX12_readStrip_285 : decode cX12_readStrip 285 = .ok (.getfield 120, 3) := by decide +kernel
theorem dX12_readStrip_288 : decode cX12_readStrip 288 = .ok (.iload_n 1, 1) := by decide +kernel
theorem dX12_readStrip_289 : decode cX12_readStrip 289 = .ok (.lload_n 2, 1) := by decide +kernel
theorem dX12_readStrip_290 : decode cX12_readStrip 290 = .ok (.lastore, 1) := by decide +kernel
theorem dX12_readStrip_291 : decode cX12_readStrip 291 = .ok (.aload_n 0, 1) := by decide +kernel
theorem dX12_readStrip_292 : decode cX12_readStrip 292 = .ok (.getfield 141, 3) := by decide +kernel
theorem dX12_readStrip_295 : decode cX12_readStrip 295 = .ok (.iconst 1, 1) := by decide +kernel
theorem dX12_readStrip_296 : decode cX12_readStrip 296 = .ok (.dup2, 1) := by decide +kernel
theorem dX12_readStrip_297 : decode cX12_readStrip 297 = .ok (.iaload, 1) := by decide +kernel
theorem dX12_readStrip_298 : decode cX12_readStrip 298 = .ok (.iconst 1, 1) := by decide +kernel
theorem dX12_readStrip_299 : decode cX12_readStrip 299 = .ok (.iadd, 1) := by decide +kernel
theorem dX12_readStrip_300 : decode cX12_readStrip 300 = .ok (.iastore, 1) := by decide +kernel
theorem dX12_readStrip_301 : decode cX12_readStrip 301 = .ok (.aload_n 0, 1) := by decide +kernel
theorem dX12_readStrip_302 : decode cX12_readStrip 302 = .ok (.bipush 59, 2) := by decide +kernel
theorem dX12_readStrip_304 : decode cX12_readStrip 304 = .ok (.invokevirtual 301, 3) := by decide +kernel
theorem dX12_readStrip_307 : decode cX12_readStrip 307 = .ok (.ireturn, 1) := by decide +kernel
theorem dX12_welds_0 : decode cX12_welds 0 = .ok (.aload_n 0, 1) := by decide +kernel
theorem dX12_welds_1 : decode cX12_welds 1 = .ok (.iconst 0, 1) := by decide +kernel
theorem dX12_welds_2 : decode cX12_welds 2 = .ok (.putfield 1, 3) := by decide +kernel
theorem dX12_welds_5 : decode cX12_welds 5 = .ok (.aload_n 0, 1) := by decide +kernel
theorem dX12_welds_6 : decode cX12_welds 6 = .ok (.sipush 400, 3) := by decide +kernel
theorem dX12_welds_9 : decode cX12_welds 9 = .ok (.invokevirtual 292, 3) := by decide +kernel
theorem dX12_welds_12 : decode cX12_welds 12 = .ok (.aload_n 0, 1) := by decide +kernel
theorem dX12_welds_13 : decode cX12_welds 13 = .ok (.iconst 0, 1) := by decide +kernel
theorem dX12_welds_14 : decode cX12_welds 14 = .ok (.putfield 247, 3) := by decide +kernel
theorem dX12_welds_17 : decode cX12_welds 17 = .ok (.aload_n 0, 1) := by decide +kernel
theorem dX12_welds_18 : decode cX12_welds 18 = .ok (.getfield 141, 3) := by decide +kernel
theorem dX12_welds_21 : decode cX12_welds 21 = .ok (.iconst 1, 1) := by decide +kernel
theorem dX12_welds_22 : decode cX12_welds 22 = .ok (.iconst 0, 1) := by decide +kernel
theorem dX12_welds_23 : decode cX12_welds 23 = .ok (.iastore, 1) := by decide +kernel
theorem dX12_welds_24 : decode cX12_welds 24 = .ok (.aload_n 0, 1) := by decide +kernel
theorem dX12_welds_25 : decode cX12_welds 25 = .ok (.getfield 144, 3) := by decide +kernel
theorem dX12_welds_28 : decode cX12_welds 28 = .ok (.iconst 1, 1) := by decide +kernel
theorem dX12_welds_29 : decode cX12_welds 29 = .ok (.iconst 0, 1) := by decide +kernel
theorem dX12_welds_30 : decode cX12_welds 30 = .ok (.iastore, 1) := by decide +kernel
theorem dX12_welds_31 : decode cX12_welds 31 = .ok (.aload_n 0, 1) := by decide +kernel
theorem dX12_welds_32 : decode cX12_welds 32 = .ok (.invokevirtual 259, 3) := by decide +kernel
theorem dX12_welds_35 : decode cX12_welds 35 = .ok (.aload_n 0, 1) := by decide +kernel
theorem dX12_welds_36 : decode cX12_welds 36 = .ok (.getfield 230, 3) := by decide +kernel
theorem dX12_welds_39 : decode cX12_welds 39 = .ok (.ifCond .eq 17, 3) := by decide +kernel
theorem dX12_welds_42 : decode cX12_welds 42 = .ok (.aload_n 0, 1) := by decide +kernel
theorem dX12_welds_43 : decode cX12_welds 43 = .ok (.invokevirtual 513, 3) := by decide +kernel
theorem dX12_welds_46 : decode cX12_welds 46 = .ok (.ifCond .ne (-11), 3) := by decide +kernel
theorem dX12_welds_49 : decode cX12_welds 49 = .ok (.iconst (-1), 1) := by decide +kernel
theorem dX12_welds_50 : decode cX12_welds 50 = .ok (.aload_n 0, 1) := by decide +kernel
theorem dX12_welds_51 : decode cX12_welds 51 = .ok (.getfield 250, 3) := by decide +kernel
theorem dX12_welds_54 : decode cX12_welds 54 = .ok (.isub, 1) := by decide +kernel
theorem dX12_welds_55 : decode cX12_welds 55 = .ok (.ireturn, 1) := by decide +kernel
theorem dX12_welds_56 : decode cX12_welds 56 = .ok (.aload_n 0, 1) := by decide +kernel
theorem dX12_welds_57 : decode cX12_welds 57 = .ok (.getfield 141, 3) := by decide +kernel
theorem dX12_welds_60 : decode cX12_welds 60 = .ok (.iconst 0, 1) := by decide +kernel
theorem dX12_welds_61 : decode cX12_welds 61 = .ok (.aload_n 0, 1) := by decide +kernel
theorem dX12_welds_62 : decode cX12_welds 62 = .ok (.getfield 141, 3) := by decide +kernel
theorem dX12_welds_65 : decode cX12_welds 65 = .ok (.iconst 1, 1) := by decide +kernel
theorem dX12_welds_66 : decode cX12_welds 66 = .ok (.iaload, 1) := by decide +kernel
theorem dX12_welds_67 : decode cX12_welds 67 = .ok (.iastore, 1) := by decide +kernel
theorem dX12_welds_68 : decode cX12_welds 68 = .ok (.aload_n 0, 1) := by decide +kernel
theorem dX12_welds_69 : decode cX12_welds 69 = .ok (.getfield 144, 3) := by decide +kernel
theorem dX12_welds_72 : decode cX12_welds 72 = .ok (.iconst 0, 1) := by decide +kernel
theorem dX12_welds_73 : decode cX12_welds 73 = .ok (.aload_n 0, 1) := by decide +kernel
theorem dX12_welds_74 : decode cX12_welds 74 = .ok (.getfield 144, 3) := by decide +kernel
theorem dX12_welds_77 : decode cX12_welds 77 = .ok (.iconst 1, 1) := by decide +kernel
theorem dX12_welds_78 : decode cX12_welds 78 = .ok (.iaload, 1) := by decide +kernel
theorem dX12_welds_79 : decode cX12_welds 79 = .ok (.iastore, 1) := by decide +kernel
theorem dX12_welds_80 : decode cX12_welds 80 = .ok (.iconst 0, 1) := by decide +kernel
theorem dX12_welds_81 : decode cX12_welds 81 = .ok (.istore_n 1, 1) := by decide +kernel
theorem dX12_welds_82 : decode cX12_welds 82 = .ok (.iload_n 1, 1) := by decide +kernel
theorem dX12_welds_83 : decode cX12_welds 83 = .ok (.aload_n 0, 1) := by decide +kernel
theorem dX12_welds_84 : decode cX12_welds 84 = .ok (.getfield 141, 3) := by decide +kernel
theorem dX12_welds_87 : decode cX12_welds 87 = .ok (.iconst 0, 1) := by decide +kernel
theorem dX12_welds_88 : decode cX12_welds 88 = .ok (.iaload, 1) := by decide +kernel
theorem dX12_welds_89 : decode cX12_welds 89 = .ok (.if_icmp .ge 54, 3) := by decide +kernel
theorem dX12_welds_92 : decode cX12_welds 92 = .ok (.aload_n 0, 1) := by decide +kernel
theorem dX12_welds_93 : decode cX12_welds 93 = .ok (.getfield 123, 3) := by decide +kernel
theorem dX12_welds_96 : decode cX12_welds 96 = .ok (.iload_n 1, 1) := by decide +kernel
theorem dX12_welds_97 : decode cX12_welds 97 = .ok (.aload_n 0, 1) := by decide +kernel
theorem dX12_welds_98 : decode cX12_welds 98 = .ok (.getfield 123, 3) := by decide +kernel
theorem dX12_welds_101 : decode cX12_welds 101 = .ok (.bipush 12, 2) := by decide +kernel
theorem dX12_welds_103 : decode cX12_welds 103 = .ok (.iload_n 1, 1) := by decide +kernel
theorem dX12_welds_104 : decode cX12_welds 104 = .ok (.iadd, 1) := by decide +kernel
theorem dX12_welds_105 : decode cX12_welds 105 = .ok (.iaload, 1) := by decide +kernel
theorem dX12_welds_106 : decode cX12_welds 106 = .ok (.iastore, 1) := by decide +kernel
theorem dX12_welds_107 : decode cX12_welds 107 = .ok (.aload_n 0, 1) := by decide +kernel
theorem dX12_welds_108 : decode cX12_welds 108 = .ok (.getfield 126, 3) := by decide +kernel
theorem dX12_welds_111 : decode cX12_welds 111 = .ok (.iload_n 1, 1) := by decide +kernel
theorem dX12_welds_112 : decode cX12_welds 112 = .ok (.aload_n 0, 1) := by decide +kernel
theorem dX12_welds_113 : decode cX12_welds 113 = .ok (.getfield 126, 3) := by decide +kernel
theorem dX12_welds_116 : decode cX12_welds 116 = .ok (.bipush 12, 2) := by decide +kernel
theorem dX12_welds_118 : decode cX12_welds 118 = .ok (.iload_n 1, 1) := by decide +kernel
theorem dX12_welds_119 : decode cX12_welds 119 = .ok (.iadd, 1) := by decide +kernel
theorem dX12_welds_120 : decode cX12_welds 120 = .ok (.iaload, 1) := by decide +kernel
theorem dX12_welds_121 : decode cX12_welds 121 = .ok (.iastore, 1) := by decide +kernel
theorem dX12_welds_122 : decode cX12_welds 122 = .ok (.aload_n 0, 1) := by decide +kernel
theorem dX12_welds_123 : decode cX12_welds 123 = .ok (.getfield 129, 3) := by decide +kernel
theorem dX12_welds_126 : decode cX12_welds 126 = .ok (.iload_n 1, 1) := by decide +kernel
theorem dX12_welds_127 : decode cX12_welds 127 = .ok (.aload_n 0, 1) := by decide +kernel
theorem dX12_welds_128 : decode cX12_welds 128 = .ok (.getfield 129, 3) := by decide +kernel
theorem dX12_welds_131 : decode cX12_welds 131 = .ok (.bipush 12, 2) := by decide +kernel
theorem dX12_welds_133 : decode cX12_welds 133 = .ok (.iload_n 1, 1) := by decide +kernel
theorem dX12_welds_134 : decode cX12_welds 134 = .ok (.iadd, 1) := by decide +kernel
theorem dX12_welds_135 : decode cX12_welds 135 = .ok (.iaload, 1) := by decide +kernel
theorem dX12_welds_136 : decode cX12_welds 136 = .ok (.iastore, 1) := by decide +kernel
theorem dX12_welds_137 : decode cX12_welds 137 = .ok (.iinc 1 1, 3) := by decide +kernel
theorem dX12_welds_140 : decode cX12_welds 140 = .ok (.goto (-58), 3) := by decide +kernel
theorem dX12_welds_143 : decode cX12_welds 143 = .ok (.iconst 0, 1) := by decide +kernel
theorem dX12_welds_144 : decode cX12_welds 144 = .ok (.istore_n 1, 1) := by decide +kernel
theorem dX12_welds_145 : decode cX12_welds 145 = .ok (.iload_n 1, 1) := by decide +kernel
theorem dX12_welds_146 : decode cX12_welds 146 = .ok (.aload_n 0, 1) := by decide +kernel
theorem dX12_welds_147 : decode cX12_welds 147 = .ok (.getfield 144, 3) := by decide +kernel
theorem dX12_welds_150 : decode cX12_welds 150 = .ok (.iconst 0, 1) := by decide +kernel
theorem dX12_welds_151 : decode cX12_welds 151 = .ok (.iaload, 1) := by decide +kernel
theorem dX12_welds_152 : decode cX12_welds 152 = .ok (.if_icmp .ge 54, 3) := by decide +kernel
theorem dX12_welds_155 : decode cX12_welds 155 = .ok (.aload_n 0, 1) := by decide +kernel
theorem dX12_welds_156 : decode cX12_welds 156 = .ok (.getfield 135, 3) := by decide +kernel
theorem dX12_welds_159 : decode cX12_welds 159 = .ok (.iload_n 1, 1) := by decide +kernel
theorem dX12_welds_160 : decode cX12_welds 160 = .ok (.aload_n 0, 1) := by decide +kernel
theorem dX12_welds_161 : decode cX12_welds 161 = .ok (.getfield 135, 3) := by decide +kernel
theorem dX12_welds_164 : decode cX12_welds 164 = .ok (.bipush 80, 2) := by decide +kernel
theorem dX12_welds_166 : decode cX12_welds 166 = .ok (.iload_n 1, 1) := by decide +kernel
theorem dX12_welds_167 : decode cX12_welds 167 = .ok (.iadd, 1) := by decide +kernel
theorem dX12_welds_168 : decode cX12_welds 168 = .ok (.iaload, 1) := by decide +kernel
theorem dX12_welds_169 : decode cX12_welds 169 = .ok (.iastore, 1) := by decide +kernel
theorem dX12_welds_170 : decode cX12_welds 170 = .ok (.aload_n 0, 1) := by decide +kernel
theorem dX12_welds_171 : decode cX12_welds 171 = .ok (.getfield 138, 3) := by decide +kernel
theorem dX12_welds_174 : decode cX12_welds 174 = .ok (.iload_n 1, 1) := by decide +kernel
theorem dX12_welds_175 : decode cX12_welds 175 = .ok (.aload_n 0, 1) := by decide +kernel
theorem dX12_welds_176 : decode cX12_welds 176 = .ok (.getfield 138, 3) := by decide +kernel
theorem dX12_welds_179 : decode cX12_welds 179 = .ok (.bipush 80, 2) := by decide +kernel
theorem dX12_welds_181 : decode cX12_welds 181 = .ok (.iload_n 1, 1) := by decide +kernel
theorem dX12_welds_182 : decode cX12_welds 182 = .ok (.iadd, 1) := by decide +kernel
theorem dX12_welds_183 : decode cX12_welds 183 = .ok (.iaload, 1) := by decide +kernel
theorem dX12_welds_184 : decode cX12_welds 184 = .ok (.iastore, 1) := by decide +kernel
theorem dX12_welds_185 : decode cX12_welds 185 = .ok (.aload_n 0, 1) := by decide +kernel
theorem dX12_welds_186 : decode cX12_welds 186 = .ok (.getfield 132, 3) := by decide +kernel
theorem dX12_welds_189 : decode cX12_welds 189 = .ok (.iload_n 1, 1) := by decide +kernel
theorem dX12_welds_190 : decode cX12_welds 190 = .ok (.aload_n 0, 1) := by decide +kernel
theorem dX12_welds_191 : decode cX12_welds 191 = .ok (.getfield 132, 3) := by decide +kernel
theorem dX12_welds_194 : decode cX12_welds 194 = .ok (.bipush 80, 2) := by decide +kernel
theorem dX12_welds_196 : decode cX12_welds 196 = .ok (.iload_n 1, 1) := by decide +kernel
theorem dX12_welds_197 : decode cX12_welds 197 = .ok (.iadd, 1) := by decide +kernel
theorem dX12_welds_198 : decode cX12_welds 198 = .ok (.iaload, 1) := by decide +kernel
theorem dX12_welds_199 : decode cX12_welds 199 = .ok (.iastore, 1) := by decide +kernel
theorem dX12_welds_200 : decode cX12_welds 200 = .ok (.iinc 1 1, 3) := by decide +kernel
theorem dX12_welds_203 : decode cX12_welds 203 = .ok (.goto (-58), 3) := by decide +kernel
theorem dX12_welds_206 : decode cX12_welds 206 = .ok (.aload_n 0, 1) := by decide +kernel
theorem dX12_welds_207 : decode cX12_welds 207 = .ok (.getfield 141, 3) := by decide +kernel
theorem dX12_welds_210 : decode cX12_welds 210 = .ok (.iconst 0, 1) := by decide +kernel
theorem dX12_welds_211 : decode cX12_welds 211 = .ok (.iaload, 1) := by decide +kernel
theorem dX12_welds_212 : decode cX12_welds 212 = .ok (.ireturn, 1) := by decide +kernel
theorem dX12_lift_0 : decode cX12_lift 0 = .ok (.iconst 0, 1) := by decide +kernel
theorem dX12_lift_1 : decode cX12_lift 1 = .ok (.istore_n 2, 1) := by decide +kernel
theorem dX12_lift_2 : decode cX12_lift 2 = .ok (.iload_n 2, 1) := by decide +kernel
theorem dX12_lift_3 : decode cX12_lift 3 = .ok (.bipush 120, 2) := by decide +kernel
theorem dX12_lift_5 : decode cX12_lift 5 = .ok (.if_icmp .ge 16, 3) := by decide +kernel
theorem dX12_lift_8 : decode cX12_lift 8 = .ok (.aload_n 0, 1) := by decide +kernel
theorem dX12_lift_9 : decode cX12_lift 9 = .ok (.getfield 147, 3) := by decide +kernel
theorem dX12_lift_12 : decode cX12_lift 12 = .ok (.iload_n 2, 1) := by decide +kernel
theorem dX12_lift_13 : decode cX12_lift 13 = .ok (.iconst (-1), 1) := by decide +kernel
theorem dX12_lift_14 : decode cX12_lift 14 = .ok (.iastore, 1) := by decide +kernel
theorem dX12_lift_15 : decode cX12_lift 15 = .ok (.iinc 2 1, 3) := by decide +kernel
theorem dX12_lift_18 : decode cX12_lift 18 = .ok (.goto (-16), 3) := by decide +kernel
theorem dX12_lift_21 : decode cX12_lift 21 = .ok (.iconst 0, 1) := by decide +kernel
theorem dX12_lift_22 : decode cX12_lift 22 = .ok (.istore_n 2, 1) := by decide +kernel
theorem dX12_lift_23 : decode cX12_lift 23 = .ok (.iload_n 2, 1) := by decide +kernel
theorem dX12_lift_24 : decode cX12_lift 24 = .ok (.bipush 120, 2) := by decide +kernel
theorem dX12_lift_26 : decode cX12_lift 26 = .ok (.if_icmp .ge 211, 3) := by decide +kernel
theorem dX12_lift_29 : decode cX12_lift 29 = .ok (.aload_n 0, 1) := by decide +kernel
theorem dX12_lift_30 : decode cX12_lift 30 = .ok (.getfield 147, 3) := by decide +kernel
theorem dX12_lift_33 : decode cX12_lift 33 = .ok (.iload_n 2, 1) := by decide +kernel
theorem dX12_lift_34 : decode cX12_lift 34 = .ok (.iaload, 1) := by decide +kernel
theorem dX12_lift_35 : decode cX12_lift 35 = .ok (.ifCond .lt 6, 3) := by decide +kernel
theorem dX12_lift_38 : decode cX12_lift 38 = .ok (.goto 193, 3) := by decide +kernel
theorem dX12_lift_41 : decode cX12_lift 41 = .ok (.iconst 1, 1) := by decide +kernel
theorem dX12_lift_42 : decode cX12_lift 42 = .ok (.istore_n 3, 1) := by decide +kernel
theorem dX12_lift_43 : decode cX12_lift 43 = .ok (.aload_n 0, 1) := by decide +kernel
theorem dX12_lift_44 : decode cX12_lift 44 = .ok (.getfield 153, 3) := by decide +kernel
theorem dX12_lift_47 : decode cX12_lift 47 = .ok (.iconst 0, 1) := by decide +kernel
theorem dX12_lift_48 : decode cX12_lift 48 = .ok (.iload_n 2, 1) := by decide +kernel
theorem dX12_lift_49 : decode cX12_lift 49 = .ok (.iastore, 1) := by decide +kernel
theorem dX12_lift_50 : decode cX12_lift 50 = .ok (.aload_n 0, 1) := by decide +kernel
theorem dX12_lift_51 : decode cX12_lift 51 = .ok (.getfield 147, 3) := by decide +kernel
theorem dX12_lift_54 : decode cX12_lift 54 = .ok (.iload_n 2, 1) := by decide +kernel
theorem dX12_lift_55 : decode cX12_lift 55 = .ok (.iload_n 2, 1) := by decide +kernel
theorem dX12_lift_56 : decode cX12_lift 56 = .ok (.iastore, 1) := by decide +kernel
theorem dX12_lift_57 : decode cX12_lift 57 = .ok (.aload_n 0, 1) := by decide +kernel
theorem dX12_lift_58 : decode cX12_lift 58 = .ok (.getfield 150, 3) := by decide +kernel
theorem dX12_lift_61 : decode cX12_lift 61 = .ok (.iload_n 2, 1) := by decide +kernel
theorem dX12_lift_62 : decode cX12_lift 62 = .ok (.iconst 0, 1) := by decide +kernel
theorem dX12_lift_63 : decode cX12_lift 63 = .ok (.iastore, 1) := by decide +kernel
theorem dX12_lift_64 : decode cX12_lift 64 = .ok (.iconst 0, 1) := by decide +kernel
theorem dX12_lift_65 : decode cX12_lift 65 = .ok (.istore 4, 2) := by decide +kernel
theorem dX12_lift_67 : decode cX12_lift 67 = .ok (.iload 4, 2) := by decide +kernel
theorem dX12_lift_69 : decode cX12_lift 69 = .ok (.iload_n 3, 1) := by decide +kernel
theorem dX12_lift_70 : decode cX12_lift 70 = .ok (.if_icmp .ge 161, 3) := by decide +kernel
theorem dX12_lift_73 : decode cX12_lift 73 = .ok (.aload_n 0, 1) := by decide +kernel
theorem dX12_lift_74 : decode cX12_lift 74 = .ok (.getfield 153, 3) := by decide +kernel
theorem dX12_lift_77 : decode cX12_lift 77 = .ok (.iload 4, 2) := by decide +kernel
theorem dX12_lift_79 : decode cX12_lift 79 = .ok (.iaload, 1) := by decide +kernel
theorem dX12_lift_80 : decode cX12_lift 80 = .ok (.istore 5, 2) := by decide +kernel
theorem dX12_lift_82 : decode cX12_lift 82 = .ok (.aload_n 0, 1) := by decide +kernel
theorem dX12_lift_83 : decode cX12_lift 83 = .ok (.iload 5, 2) := by decide +kernel
theorem dX12_lift_85 : decode cX12_lift 85 = .ok (.iconst 2, 1) := by decide +kernel
theorem dX12_lift_86 : decode cX12_lift 86 = .ok (.irem, 1) := by decide +kernel
theorem dX12_lift_87 : decode cX12_lift 87 = .ok (.ifCond .ne 10, 3) := by decide +kernel
theorem dX12_lift_90 : decode cX12_lift 90 = .ok (.iload 5, 2) := by decide +kernel
theorem dX12_lift_92 : decode cX12_lift 92 = .ok (.iconst 1, 1) := by decide +kernel
theorem dX12_lift_93 : decode cX12_lift 93 = .ok (.iadd, 1) := by decide +kernel
theorem dX12_lift_94 : decode cX12_lift 94 = .ok (.goto 7, 3) := by decide +kernel
theorem dX12_lift_97 : decode cX12_lift 97 = .ok (.iload 5, 2) := by decide +kernel
theorem dX12_lift_99 : decode cX12_lift 99 = .ok (.iconst 1, 1) := by decide +kernel
theorem dX12_lift_100 : decode cX12_lift 100 = .ok (.isub, 1) := by decide +kernel
theorem dX12_lift_101 : decode cX12_lift 101 = .ok (.iload_n 2, 1) := by decide +kernel
theorem dX12_lift_102 : decode cX12_lift 102 = .ok (.aload_n 0, 1) := by decide +kernel
theorem dX12_lift_103 : decode cX12_lift 103 = .ok (.getfield 150, 3) := by decide +kernel
theorem dX12_lift_106 : decode cX12_lift 106 = .ok (.iload 5, 2) := by decide +kernel
theorem dX12_lift_108 : decode cX12_lift 108 = .ok (.iaload, 1) := by decide +kernel
theorem dX12_lift_109 : decode cX12_lift 109 = .ok (.iload 5, 2) := by decide +kernel
theorem dX12_lift_111 : decode cX12_lift 111 = .ok (.iconst 2, 1) := by decide +kernel
theorem dX12_lift_112 : decode cX12_lift 112 = .ok (.irem, 1) := by decide +kernel
theorem dX12_lift_113 : decode cX12_lift 113 = .ok (.ifCond .ne 7, 3) := by decide +kernel
theorem dX12_lift_116 : decode cX12_lift 116 = .ok (.iconst 1, 1) := by decide +kernel
theorem dX12_lift_117 : decode cX12_lift 117 = .ok (.goto 4, 3) := by decide +kernel
theorem dX12_lift_120 : decode cX12_lift 120 = .ok (.iconst (-1), 1) := by decide +kernel
theorem dX12_lift_121 : decode cX12_lift 121 = .ok (.iadd, 1) := by decide +kernel
theorem dX12_lift_122 : decode cX12_lift 122 = .ok (.iload_n 3, 1) := by decide +kernel
theorem dX12_lift_123 : decode cX12_lift 123 = .ok (.invokevirtual 516, 3) := by decide +kernel
theorem dX12_lift_126 : decode cX12_lift 126 = .ok (.istore_n 3, 1) := by decide +kernel
theorem dX12_lift_127 : decode cX12_lift 127 = .ok (.iconst 0, 1) := by decide +kernel
theorem dX12_lift_128 : decode cX12_lift 128 = .ok (.istore 6, 2) := by decide +kernel
theorem dX12_lift_130 : decode cX12_lift 130 = .ok (.iload 6, 2) := by decide +kernel
theorem dX12_lift_132 : decode cX12_lift 132 = .ok (.aload_n 0, 1) := by decide +kernel
theorem dX12_lift_133 : decode cX12_lift 133 = .ok (.getfield 141, 3) := by decide +kernel
theorem dX12_lift_136 : decode cX12_lift 136 = .ok (.iconst 0, 1) := by decide +kernel
theorem dX12_lift_137 : decode cX12_lift 137 = .ok (.iaload, 1) := by decide +kernel
theorem dX12_lift_138 : decode cX12_lift 138 = .ok (.if_icmp .ge 87, 3) := by decide +kernel
theorem dX12_lift_141 : decode cX12_lift 141 = .ok (.iload_n 1, 1) := by decide +kernel
theorem dX12_lift_142 : decode cX12_lift 142 = .ok (.iload 6, 2) := by decide +kernel
theorem dX12_lift_144 : decode cX12_lift 144 = .ok (.ishr, 1) := by decide +kernel
theorem dX12_lift_145 : decode cX12_lift 145 = .ok (.iconst 1, 1) := by decide +kernel
theorem dX12_lift_146 : decode cX12_lift 146 = .ok (.iand, 1) := by decide +kernel
theorem dX12_lift_147 : decode cX12_lift 147 = .ok (.ifCond .ne 6, 3) := by decide +kernel
theorem dX12_lift_150 : decode cX12_lift 150 = .ok (.goto 69, 3) := by decide +kernel
theorem dX12_lift_153 : decode cX12_lift 153 = .ok (.aload_n 0, 1) := by decide +kernel
theorem dX12_lift_154 : decode cX12_lift 154 = .ok (.getfield 123, 3) := by decide +kernel
theorem dX12_lift_157 : decode cX12_lift 157 = .ok (.iload 6, 2) := by decide +kernel
theorem dX12_lift_159 : decode cX12_lift 159 = .ok (.iaload, 1) := by decide +kernel
theorem dX12_lift_160 : decode cX12_lift 160 = .ok (.iload 5, 2) := by decide +kernel
theorem dX12_lift_162 : decode cX12_lift 162 = .ok (.if_icmp .ne 24, 3) := by decide +kernel
theorem dX12_lift_165 : decode cX12_lift 165 = .ok (.aload_n 0, 1) := by decide +kernel
theorem dX12_lift_166 : decode cX12_lift 166 = .ok (.aload_n 0, 1) := by decide +kernel
theorem dX12_lift_167 : decode cX12_lift 167 = .ok (.getfield 126, 3) := by decide +kernel
theorem dX12_lift_170 : decode cX12_lift 170 = .ok (.iload 6, 2) := by decide +kernel
theorem dX12_lift_172 : decode cX12_lift 172 = .ok (.iaload, 1) := by decide +kernel
theorem dX12_lift_173 : decode cX12_lift 173 = .ok (.iload_n 2, 1) := by decide +kernel
theorem dX12_lift_174 : decode cX12_lift 174 = .ok (.aload_n 0, 1) := by decide +kernel
theorem dX12_lift_175 : decode cX12_lift 175 = .ok (.getfield 150, 3) := by decide +kernel
theorem dX12_lift_178 : decode cX12_lift 178 = .ok (.iload 5, 2) := by decide +kernel
theorem dX12_lift_180 : decode cX12_lift 180 = .ok (.iaload, 1) := by decide +kernel
theorem dX12_lift_181 : decode cX12_lift 181 = .ok (.iload_n 3, 1) := by decide +kernel
theorem dX12_lift_182 : decode cX12_lift 182 = .ok (.invokevirtual 516, 3) := by decide +kernel
theorem dX12_lift_185 : decode cX12_lift 185 = .ok (.istore_n 3, 1) := by decide +kernel
theorem dX12_lift_186 : decode cX12_lift 186 = .ok (.aload_n 0, 1) := by decide +kernel
theorem dX12_lift_187 : decode cX12_lift 187 = .ok (.getfield 126, 3) := by decide +kernel
theorem dX12_lift_190 : decode cX12_lift 190 = .ok (.iload 6, 2) := by decide +kernel
theorem dX12_lift_192 : decode cX12_lift 192 = .ok (.iaload, 1) := by decide +kernel
theorem dX12_lift_193 : decode cX12_lift 193 = .ok (.iload 5, 2) := by decide +kernel
theorem dX12_lift_195 : decode cX12_lift 195 = .ok (.if_icmp .ne 24, 3) := by decide +kernel
theorem dX12_lift_198 : decode cX12_lift 198 = .ok (.aload_n 0, 1) := by decide +kernel
theorem dX12_lift_199 : decode cX12_lift 199 = .ok (.aload_n 0, 1) := by decide +kernel
theorem dX12_lift_200 : decode cX12_lift 200 = .ok (.getfield 123, 3) := by decide +kernel
theorem dX12_lift_203 : decode cX12_lift 203 = .ok (.iload 6, 2) := by decide +kernel
theorem dX12_lift_205 : decode cX12_lift 205 = .ok (.iaload, 1) := by decide +kernel
theorem dX12_lift_206 : decode cX12_lift 206 = .ok (.iload_n 2, 1) := by decide +kernel
theorem dX12_lift_207 : decode cX12_lift 207 = .ok (.aload_n 0, 1) := by decide +kernel
theorem dX12_lift_208 : decode cX12_lift 208 = .ok (.getfield 150, 3) := by decide +kernel
theorem dX12_lift_211 : decode cX12_lift 211 = .ok (.iload 5, 2) := by decide +kernel
theorem dX12_lift_213 : decode cX12_lift 213 = .ok (.iaload, 1) := by decide +kernel
theorem dX12_lift_214 : decode cX12_lift 214 = .ok (.iload_n 3, 1) := by decide +kernel
theorem dX12_lift_215 : decode cX12_lift 215 = .ok (.invokevirtual 516, 3) := by decide +kernel
theorem dX12_lift_218 : decode cX12_lift 218 = .ok (.istore_n 3, 1) := by decide +kernel
theorem dX12_lift_219 : decode cX12_lift 219 = .ok (.iinc 6 1, 3) := by decide +kernel
theorem dX12_lift_222 : decode cX12_lift 222 = .ok (.goto (-92), 3) := by decide +kernel
theorem dX12_lift_225 : decode cX12_lift 225 = .ok (.iinc 4 1, 3) := by decide +kernel
theorem dX12_lift_228 : decode cX12_lift 228 = .ok (.goto (-161), 3) := by decide +kernel
theorem dX12_lift_231 : decode cX12_lift 231 = .ok (.iinc 2 1, 3) := by decide +kernel
theorem dX12_lift_234 : decode cX12_lift 234 = .ok (.goto (-211), 3) := by decide +kernel
theorem dX12_lift_237 : decode cX12_lift 237 = .ok (.return_, 1) := by decide +kernel
theorem dX12_comes_0 : decode cX12_comes 0 = .ok (.aload_n 0, 1) := by decide +kernel
theorem dX12_comes_1 : decode cX12_comes 1 = .ok (.getfield 147, 3) := by decide +kernel
theorem dX12_comes_4 : decode cX12_comes 4 = .ok (.iload_n 1, 1) := by decide +kernel
theorem dX12_comes_5 : decode cX12_comes 5 = .ok (.iaload, 1) := by decide +kernel
theorem dX12_comes_6 : decode cX12_comes 6 = .ok (.ifCond .lt 6, 3) := by decide +kernel
theorem dX12_comes_9 : decode cX12_comes 9 = .ok (.iload 4, 2) := by decide +kernel
theorem dX12_comes_11 : decode cX12_comes 11 = .ok (.ireturn, 1) := by decide +kernel
theorem dX12_comes_12 : decode cX12_comes 12 = .ok (.aload_n 0, 1) := by decide +kernel
theorem dX12_comes_13 : decode cX12_comes 13 = .ok (.getfield 147, 3) := by decide +kernel
theorem dX12_comes_16 : decode cX12_comes 16 = .ok (.iload_n 1, 1) := by decide +kernel
theorem dX12_comes_17 : decode cX12_comes 17 = .ok (.iload_n 2, 1) := by decide +kernel
theorem dX12_comes_18 : decode cX12_comes 18 = .ok (.iastore, 1) := by decide +kernel
theorem dX12_comes_19 : decode cX12_comes 19 = .ok (.aload_n 0, 1) := by decide +kernel
theorem dX12_comes_20 : decode cX12_comes 20 = .ok (.getfield 150, 3) := by decide +kernel
theorem dX12_comes_23 : decode cX12_comes 23 = .ok (.iload_n 1, 1) := by decide +kernel
theorem dX12_comes_24 : decode cX12_comes 24 = .ok (.iload_n 3, 1) := by decide +kernel
theorem dX12_comes_25 : decode cX12_comes 25 = .ok (.iastore, 1) := by decide +kernel
theorem dX12_comes_26 : decode cX12_comes 26 = .ok (.aload_n 0, 1) := by decide +kernel
theorem dX12_comes_27 : decode cX12_comes 27 = .ok (.getfield 153, 3) := by decide +kernel
theorem dX12_comes_30 : decode cX12_comes 30 = .ok (.iload 4, 2) := by decide +kernel
theorem dX12_comes_32 : decode cX12_comes 32 = .ok (.iload_n 1, 1) := by decide +kernel
theorem dX12_comes_33 : decode cX12_comes 33 = .ok (.iastore, 1) := by decide +kernel
theorem dX12_comes_34 : decode cX12_comes 34 = .ok (.iload 4, 2) := by decide +kernel
theorem dX12_comes_36 : decode cX12_comes 36 = .ok (.iconst 1, 1) := by decide +kernel
theorem dX12_comes_37 : decode cX12_comes 37 = .ok (.iadd, 1) := by decide +kernel
theorem dX12_comes_38 : decode cX12_comes 38 = .ok (.ireturn, 1) := by decide +kernel
theorem dX12_shorts_0 : decode cX12_shorts 0 = .ok (.aload_n 0, 1) := by decide +kernel
theorem dX12_shorts_1 : decode cX12_shorts 1 = .ok (.iload_n 1, 1) := by decide +kernel
theorem dX12_shorts_2 : decode cX12_shorts 2 = .ok (.invokevirtual 520, 3) := by decide +kernel
theorem dX12_shorts_5 : decode cX12_shorts 5 = .ok (.aload_n 0, 1) := by decide +kernel
theorem dX12_shorts_6 : decode cX12_shorts 6 = .ok (.getfield 147, 3) := by decide +kernel
theorem dX12_shorts_9 : decode cX12_shorts 9 = .ok (.aload_n 0, 1) := by decide +kernel
theorem dX12_shorts_10 : decode cX12_shorts 10 = .ok (.getfield 123, 3) := by decide +kernel
theorem dX12_shorts_13 : decode cX12_shorts 13 = .ok (.iload_n 2, 1) := by decide +kernel
theorem dX12_shorts_14 : decode cX12_shorts 14 = .ok (.iaload, 1) := by decide +kernel
theorem dX12_shorts_15 : decode cX12_shorts 15 = .ok (.iaload, 1) := by decide +kernel
theorem dX12_shorts_16 : decode cX12_shorts 16 = .ok (.aload_n 0, 1) := by decide +kernel
theorem dX12_shorts_17 : decode cX12_shorts 17 = .ok (.getfield 147, 3) := by decide +kernel
theorem dX12_shorts_20 : decode cX12_shorts 20 = .ok (.aload_n 0, 1) := by decide +kernel
theorem dX12_shorts_21 : decode cX12_shorts 21 = .ok (.getfield 126, 3) := by decide +kernel
theorem dX12_shorts_24 : decode cX12_shorts 24 = .ok (.iload_n 2, 1) := by decide +kernel
theorem dX12_shorts_25 : decode cX12_shorts 25 = .ok (.iaload, 1) := by decide +kernel
theorem dX12_shorts_26 : decode cX12_shorts 26 = .ok (.iaload, 1) := by decide +kernel
theorem dX12_shorts_27 : decode cX12_shorts 27 = .ok (.if_icmp .ne 30, 3) := by decide +kernel
theorem dX12_shorts_30 : decode cX12_shorts 30 = .ok (.aload_n 0, 1) := by decide +kernel
theorem dX12_shorts_31 : decode cX12_shorts 31 = .ok (.getfield 150, 3) := by decide +kernel
theorem dX12_shorts_34 : decode cX12_shorts 34 = .ok (.aload_n 0, 1) := by decide +kernel
theorem dX12_shorts_35 : decode cX12_shorts 35 = .ok (.getfield 123, 3) := by decide +kernel
theorem dX12_shorts_38 : decode cX12_shorts 38 = .ok (.iload_n 2, 1) := by decide +kernel
theorem dX12_shorts_39 : decode cX12_shorts 39 = .ok (.iaload, 1) := by decide +kernel
theorem dX12_shorts_40 : decode cX12_shorts 40 = .ok (.iaload, 1) := by decide +kernel
theorem dX12_shorts_41 : decode cX12_shorts 41 = .ok (.aload_n 0, 1) := by decide +kernel
theorem dX12_shorts_42 : decode cX12_shorts 42 = .ok (.getfield 150, 3) := by decide +kernel
theorem dX12_shorts_45 : decode cX12_shorts 45 = .ok (.aload_n 0, 1) := by decide +kernel
theorem dX12_shorts_46 : decode cX12_shorts 46 = .ok (.getfield 126, 3) := by decide +kernel
theorem dX12_shorts_49 : decode cX12_shorts 49 = .ok (.iload_n 2, 1) := by decide +kernel
theorem dX12_shorts_50 : decode cX12_shorts 50 = .ok (.iaload, 1) := by decide +kernel
theorem dX12_shorts_51 : decode cX12_shorts 51 = .ok (.iaload, 1) := by decide +kernel
theorem dX12_shorts_52 : decode cX12_shorts 52 = .ok (.if_icmp .eq 5, 3) := by decide +kernel
theorem dX12_shorts_55 : decode cX12_shorts 55 = .ok (.iconst 1, 1) := by decide +kernel
theorem dX12_shorts_56 : decode cX12_shorts 56 = .ok (.ireturn, 1) := by decide +kernel
theorem dX12_shorts_57 : decode cX12_shorts 57 = .ok (.aload_n 0, 1) := by decide +kernel
theorem dX12_shorts_58 : decode cX12_shorts 58 = .ok (.iload_n 1, 1) := by decide +kernel
theorem dX12_shorts_59 : decode cX12_shorts 59 = .ok (.iconst 1, 1) := by decide +kernel
theorem dX12_shorts_60 : decode cX12_shorts 60 = .ok (.iload_n 2, 1) := by decide +kernel
theorem dX12_shorts_61 : decode cX12_shorts 61 = .ok (.ishl, 1) := by decide +kernel
theorem dX12_shorts_62 : decode cX12_shorts 62 = .ok (.ior, 1) := by decide +kernel
theorem dX12_shorts_63 : decode cX12_shorts 63 = .ok (.invokevirtual 520, 3) := by decide +kernel
theorem dX12_shorts_66 : decode cX12_shorts 66 = .ok (.iconst 0, 1) := by decide +kernel
theorem dX12_shorts_67 : decode cX12_shorts 67 = .ok (.istore_n 3, 1) := by decide +kernel
theorem dX12_shorts_68 : decode cX12_shorts 68 = .ok (.iload_n 3, 1) := by decide +kernel
theorem dX12_shorts_69 : decode cX12_shorts 69 = .ok (.aload_n 0, 1) := by decide +kernel
theorem dX12_shorts_70 : decode cX12_shorts 70 = .ok (.getfield 144, 3) := by decide +kernel
theorem dX12_shorts_73 : decode cX12_shorts 73 = .ok (.iconst 0, 1) := by decide +kernel
theorem dX12_shorts_74 : decode cX12_shorts 74 = .ok (.iaload, 1) := by decide +kernel
theorem dX12_shorts_75 : decode cX12_shorts 75 = .ok (.if_icmp .ge 76, 3) := by decide +kernel
theorem dX12_shorts_78 : decode cX12_shorts 78 = .ok (.aload_n 0, 1) := by decide +kernel
theorem dX12_shorts_79 : decode cX12_shorts 79 = .ok (.getfield 132, 3) := by decide +kernel
theorem dX12_shorts_82 : decode cX12_shorts 82 = .ok (.iload_n 3, 1) := by decide +kernel
theorem dX12_shorts_83 : decode cX12_shorts 83 = .ok (.iaload, 1) := by decide +kernel
theorem dX12_shorts_84 : decode cX12_shorts 84 = .ok (.iload_n 2, 1) := by decide +kernel
theorem dX12_shorts_85 : decode cX12_shorts 85 = .ok (.if_icmp .ne 60, 3) := by decide +kernel
theorem dX12_shorts_88 : decode cX12_shorts 88 = .ok (.aload_n 0, 1) := by decide +kernel
theorem dX12_shorts_89 : decode cX12_shorts 89 = .ok (.getfield 147, 3) := by decide +kernel
theorem dX12_shorts_92 : decode cX12_shorts 92 = .ok (.aload_n 0, 1) := by decide +kernel
theorem dX12_shorts_93 : decode cX12_shorts 93 = .ok (.getfield 135, 3) := by decide +kernel
theorem dX12_shorts_96 : decode cX12_shorts 96 = .ok (.iload_n 3, 1) := by decide +kernel
theorem dX12_shorts_97 : decode cX12_shorts 97 = .ok (.iaload, 1) := by decide +kernel
theorem dX12_shorts_98 : decode cX12_shorts 98 = .ok (.iaload, 1) := by decide +kernel
theorem dX12_shorts_99 : decode cX12_shorts 99 = .ok (.aload_n 0, 1) := by decide +kernel
theorem dX12_shorts_100 : decode cX12_shorts 100 = .ok (.getfield 147, 3) := by decide +kernel
theorem dX12_shorts_103 : decode cX12_shorts 103 = .ok (.aload_n 0, 1) := by decide +kernel
theorem dX12_shorts_104 : decode cX12_shorts 104 = .ok (.getfield 138, 3) := by decide +kernel
theorem dX12_shorts_107 : decode cX12_shorts 107 = .ok (.iload_n 3, 1) := by decide +kernel
theorem dX12_shorts_108 : decode cX12_shorts 108 = .ok (.iaload, 1) := by decide +kernel
theorem dX12_shorts_109 : decode cX12_shorts 109 = .ok (.iaload, 1) := by decide +kernel
theorem dX12_shorts_110 : decode cX12_shorts 110 = .ok (.if_icmp .ne 35, 3) := by decide +kernel
theorem dX12_shorts_113 : decode cX12_shorts 113 = .ok (.aload_n 0, 1) := by decide +kernel
theorem dX12_shorts_114 : decode cX12_shorts 114 = .ok (.getfield 150, 3) := by decide +kernel
theorem dX12_shorts_117 : decode cX12_shorts 117 = .ok (.aload_n 0, 1) := by decide +kernel
theorem dX12_shorts_118 : decode cX12_shorts 118 = .ok (.getfield 135, 3) := by decide +kernel
theorem dX12_shorts_121 : decode cX12_shorts 121 = .ok (.iload_n 3, 1) := by decide +kernel
theorem dX12_shorts_122 : decode cX12_shorts 122 = .ok (.iaload, 1) := by decide +kernel
theorem dX12_shorts_123 : decode cX12_shorts 123 = .ok (.iaload, 1) := by decide +kernel
theorem dX12_shorts_124 : decode cX12_shorts 124 = .ok (.aload_n 0, 1) := by decide +kernel
theorem dX12_shorts_125 : decode cX12_shorts 125 = .ok (.getfield 150, 3) := by decide +kernel
theorem dX12_shorts_128 : decode cX12_shorts 128 = .ok (.aload_n 0, 1) := by decide +kernel
theorem dX12_shorts_129 : decode cX12_shorts 129 = .ok (.getfield 138, 3) := by decide +kernel
theorem dX12_shorts_132 : decode cX12_shorts 132 = .ok (.iload_n 3, 1) := by decide +kernel
theorem dX12_shorts_133 : decode cX12_shorts 133 = .ok (.iaload, 1) := by decide +kernel
theorem dX12_shorts_134 : decode cX12_shorts 134 = .ok (.iaload, 1) := by decide +kernel
theorem dX12_shorts_135 : decode cX12_shorts 135 = .ok (.isub, 1) := by decide +kernel
theorem dX12_shorts_136 : decode cX12_shorts 136 = .ok (.invokestatic 335, 3) := by decide +kernel
theorem dX12_shorts_139 : decode cX12_shorts 139 = .ok (.iconst 1, 1) := by decide +kernel
theorem dX12_shorts_140 : decode cX12_shorts 140 = .ok (.if_icmp .le 5, 3) := by decide +kernel
theorem dX12_shorts_143 : decode cX12_shorts 143 = .ok (.iconst 1, 1) := by decide +kernel
theorem dX12_shorts_144 : decode cX12_shorts 144 = .ok (.ireturn, 1) := by decide +kernel
theorem dX12_shorts_145 : decode cX12_shorts 145 = .ok (.iinc 3 1, 3) := by decide +kernel
theorem dX12_shorts_148 : decode cX12_shorts 148 = .ok (.goto (-80), 3) := by decide +kernel
theorem dX12_shorts_151 : decode cX12_shorts 151 = .ok (.iconst 0, 1) := by decide +kernel
theorem dX12_shorts_152 : decode cX12_shorts 152 = .ok (.ireturn, 1) := by decide +kernel
theorem dX12_canNext_0 : decode cX12_canNext 0 = .ok (.iload_n 1, 1) := by decide +kernel
theorem dX12_canNext_1 : decode cX12_canNext 1 = .ok (.iload_n 2, 1) := by decide +kernel
theorem dX12_canNext_2 : decode cX12_canNext 2 = .ok (.ishr, 1) := by decide +kernel
theorem dX12_canNext_3 : decode cX12_canNext 3 = .ok (.iconst 1, 1) := by decide +kernel
theorem dX12_canNext_4 : decode cX12_canNext 4 = .ok (.iand, 1) := by decide +kernel
theorem dX12_canNext_5 : decode cX12_canNext 5 = .ok (.ifCond .ne 29, 3) := by decide +kernel
theorem dX12_canNext_8 : decode cX12_canNext 8 = .ok (.aload_n 0, 1) := by decide +kernel
theorem dX12_canNext_9 : decode cX12_canNext 9 = .ok (.getfield 129, 3) := by decide +kernel
theorem dX12_canNext_12 : decode cX12_canNext 12 = .ok (.iload_n 2, 1) := by decide +kernel
theorem dX12_canNext_13 : decode cX12_canNext 13 = .ok (.iaload, 1) := by decide +kernel
theorem dX12_canNext_14 : decode cX12_canNext 14 = .ok (.iload_n 1, 1) := by decide +kernel
theorem dX12_canNext_15 : decode cX12_canNext 15 = .ok (.iconst (-1), 1) := by decide +kernel
theorem dX12_canNext_16 : decode cX12_canNext 16 = .ok (.ixor, 1) := by decide +kernel
theorem dX12_canNext_17 : decode cX12_canNext 17 = .ok (.iand, 1) := by decide +kernel
theorem dX12_canNext_18 : decode cX12_canNext 18 = .ok (.ifCond .ne 16, 3) := by decide +kernel
theorem dX12_canNext_21 : decode cX12_canNext 21 = .ok (.aload_n 0, 1) := by decide +kernel
theorem dX12_canNext_22 : decode cX12_canNext 22 = .ok (.iload_n 1, 1) := by decide +kernel
theorem dX12_canNext_23 : decode cX12_canNext 23 = .ok (.iload_n 2, 1) := by decide +kernel
theorem dX12_canNext_24 : decode cX12_canNext 24 = .ok (.invokevirtual 523, 3) := by decide +kernel
theorem dX12_canNext_27 : decode cX12_canNext 27 = .ok (.ifCond .ne 7, 3) := by decide +kernel
theorem dX12_canNext_30 : decode cX12_canNext 30 = .ok (.iconst 1, 1) := by decide +kernel
theorem dX12_canNext_31 : decode cX12_canNext 31 = .ok (.goto 4, 3) := by decide +kernel
theorem dX12_canNext_34 : decode cX12_canNext 34 = .ok (.iconst 0, 1) := by decide +kernel
theorem dX12_canNext_35 : decode cX12_canNext 35 = .ok (.ireturn, 1) := by decide +kernel
theorem dX12_order_0 : decode cX12_order 0 = .ok (.aload_n 0, 1) := by decide +kernel
theorem dX12_order_1 : decode cX12_order 1 = .ok (.iconst 0, 1) := by decide +kernel
theorem dX12_order_2 : decode cX12_order 2 = .ok (.putfield 1, 3) := by decide +kernel
theorem dX12_order_5 : decode cX12_order 5 = .ok (.iconst 1, 1) := by decide +kernel
theorem dX12_order_6 : decode cX12_order 6 = .ok (.aload_n 0, 1) := by decide +kernel
theorem dX12_order_7 : decode cX12_order 7 = .ok (.getfield 141, 3) := by decide +kernel
theorem dX12_order_10 : decode cX12_order 10 = .ok (.iconst 0, 1) := by decide +kernel
theorem dX12_order_11 : decode cX12_order 11 = .ok (.iaload, 1) := by decide +kernel
theorem dX12_order_12 : decode cX12_order 12 = .ok (.ishl, 1) := by decide +kernel
theorem dX12_order_13 : decode cX12_order 13 = .ok (.iconst 1, 1) := by decide +kernel
theorem dX12_order_14 : decode cX12_order 14 = .ok (.isub, 1) := by decide +kernel
theorem dX12_order_15 : decode cX12_order 15 = .ok (.istore_n 1, 1) := by decide +kernel
theorem dX12_order_16 : decode cX12_order 16 = .ok (.iload_n 1, 1) := by decide +kernel
theorem dX12_order_17 : decode cX12_order 17 = .ok (.istore_n 2, 1) := by decide +kernel
theorem dX12_order_18 : decode cX12_order 18 = .ok (.iload_n 2, 1) := by decide +kernel
theorem dX12_order_19 : decode cX12_order 19 = .ok (.ifCond .lt 93, 3) := by decide +kernel
theorem dX12_order_22 : decode cX12_order 22 = .ok (.aload_n 0, 1) := by decide +kernel
theorem dX12_order_23 : decode cX12_order 23 = .ok (.getfield 156, 3) := by decide +kernel
theorem dX12_order_26 : decode cX12_order 26 = .ok (.iload_n 2, 1) := by decide +kernel
theorem dX12_order_27 : decode cX12_order 27 = .ok (.iload_n 2, 1) := by decide +kernel
theorem dX12_order_28 : decode cX12_order 28 = .ok (.iload_n 1, 1) := by decide +kernel
theorem dX12_order_29 : decode cX12_order 29 = .ok (.if_icmp .ne 7, 3) := by decide +kernel
theorem dX12_order_32 : decode cX12_order 32 = .ok (.iconst 1, 1) := by decide +kernel
theorem dX12_order_33 : decode cX12_order 33 = .ok (.goto 4, 3) := by decide +kernel
theorem dX12_order_36 : decode cX12_order 36 = .ok (.iconst 0, 1) := by decide +kernel
theorem dX12_order_37 : decode cX12_order 37 = .ok (.bastore, 1) := by decide +kernel
theorem dX12_order_38 : decode cX12_order 38 = .ok (.iconst 0, 1) := by decide +kernel
theorem dX12_order_39 : decode cX12_order 39 = .ok (.istore_n 3, 1) := by decide +kernel
theorem dX12_order_40 : decode cX12_order 40 = .ok (.iload_n 3, 1) := by decide +kernel
theorem dX12_order_41 : decode cX12_order 41 = .ok (.aload_n 0, 1) := by decide +kernel
theorem dX12_order_42 : decode cX12_order 42 = .ok (.getfield 141, 3) := by decide +kernel
theorem dX12_order_45 : decode cX12_order 45 = .ok (.iconst 0, 1) := by decide +kernel
theorem dX12_order_46 : decode cX12_order 46 = .ok (.iaload, 1) := by decide +kernel
theorem dX12_order_47 : decode cX12_order 47 = .ok (.if_icmp .ge 59, 3) := by decide +kernel
theorem dX12_order_50 : decode cX12_order 50 = .ok (.aload_n 0, 1) := by decide +kernel
theorem dX12_order_51 : decode cX12_order 51 = .ok (.getfield 156, 3) := by decide +kernel
theorem dX12_order_54 : decode cX12_order 54 = .ok (.iload_n 2, 1) := by decide +kernel
theorem dX12_order_55 : decode cX12_order 55 = .ok (.baload, 1) := by decide +kernel
theorem dX12_order_56 : decode cX12_order 56 = .ok (.ifCond .ne 50, 3) := by decide +kernel
theorem dX12_order_59 : decode cX12_order 59 = .ok (.aload_n 0, 1) := by decide +kernel
theorem dX12_order_60 : decode cX12_order 60 = .ok (.getfield 156, 3) := by decide +kernel
theorem dX12_order_63 : decode cX12_order 63 = .ok (.iload_n 2, 1) := by decide +kernel
theorem dX12_order_64 : decode cX12_order 64 = .ok (.iload_n 2, 1) := by decide +kernel
theorem dX12_order_65 : decode cX12_order 65 = .ok (.iload_n 3, 1) := by decide +kernel
theorem dX12_order_66 : decode cX12_order 66 = .ok (.ishr, 1) := by decide +kernel
theorem dX12_order_67 : decode cX12_order 67 = .ok (.iconst 1, 1) := by decide +kernel
theorem dX12_order_68 : decode cX12_order 68 = .ok (.iand, 1) := by decide +kernel
theorem dX12_order_69 : decode cX12_order 69 = .ok (.ifCond .ne 29, 3) := by decide +kernel
theorem dX12_order_72 : decode cX12_order 72 = .ok (.aload_n 0, 1) := by decide +kernel
theorem dX12_order_73 : decode cX12_order 73 = .ok (.getfield 156, 3) := by decide +kernel
theorem dX12_order_76 : decode cX12_order 76 = .ok (.iload_n 2, 1) := by decide +kernel
theorem dX12_order_77 : decode cX12_order 77 = .ok (.iconst 1, 1) := by decide +kernel
theorem dX12_order_78 : decode cX12_order 78 = .ok (.iload_n 3, 1) := by decide +kernel
theorem dX12_order_79 : decode cX12_order 79 = .ok (.ishl, 1) := by decide +kernel
theorem dX12_order_80 : decode cX12_order 80 = .ok (.ior, 1) := by decide +kernel
theorem dX12_order_81 : decode cX12_order 81 = .ok (.baload, 1) := by decide +kernel
theorem dX12_order_82 : decode cX12_order 82 = .ok (.ifCond .eq 16, 3) := by decide +kernel
theorem dX12_order_85 : decode cX12_order 85 = .ok (.aload_n 0, 1) := by decide +kernel
theorem dX12_order_86 : decode cX12_order 86 = .ok (.iload_n 2, 1) := by decide +kernel
theorem dX12_order_87 : decode cX12_order 87 = .ok (.iload_n 3, 1) := by decide +kernel
theorem dX12_order_88 : decode cX12_order 88 = .ok (.invokevirtual 526, 3) := by decide +kernel
theorem dX12_order_91 : decode cX12_order 91 = .ok (.ifCond .eq 7, 3) := by decide +kernel
theorem dX12_order_94 : decode cX12_order 94 = .ok (.iconst 1, 1) := by decide +kernel
theorem dX12_order_95 : decode cX12_order 95 = .ok (.goto 4, 3) := by decide +kernel
theorem dX12_order_98 : decode cX12_order 98 = .ok (.iconst 0, 1) := by decide +kernel
theorem dX12_order_99 : decode cX12_order 99 = .ok (.bastore, 1) := by decide +kernel
theorem dX12_order_100 : decode cX12_order 100 = .ok (.iinc 3 1, 3) := by decide +kernel
theorem dX12_order_103 : decode cX12_order 103 = .ok (.goto (-63), 3) := by decide +kernel
theorem dX12_order_106 : decode cX12_order 106 = .ok (.iinc 2 (-1), 3) := by decide +kernel
theorem dX12_order_109 : decode cX12_order 109 = .ok (.goto (-91), 3) := by decide +kernel
theorem dX12_order_112 : decode cX12_order 112 = .ok (.aload_n 0, 1) := by decide +kernel
theorem dX12_order_113 : decode cX12_order 113 = .ok (.getfield 156, 3) := by decide +kernel
theorem dX12_order_116 : decode cX12_order 116 = .ok (.iconst 0, 1) := by decide +kernel
theorem dX12_order_117 : decode cX12_order 117 = .ok (.baload, 1) := by decide +kernel
theorem dX12_order_118 : decode cX12_order 118 = .ok (.ifCond .ne 5, 3) := by decide +kernel
theorem dX12_order_121 : decode cX12_order 121 = .ok (.iconst (-1), 1) := by decide +kernel
theorem dX12_order_122 : decode cX12_order 122 = .ok (.ireturn, 1) := by decide +kernel
theorem dX12_order_123 : decode cX12_order 123 = .ok (.iconst 0, 1) := by decide +kernel
theorem dX12_order_124 : decode cX12_order 124 = .ok (.istore_n 2, 1) := by decide +kernel
theorem dX12_order_125 : decode cX12_order 125 = .ok (.iconst 0, 1) := by decide +kernel
theorem dX12_order_126 : decode cX12_order 126 = .ok (.istore_n 3, 1) := by decide +kernel
theorem dX12_order_127 : decode cX12_order 127 = .ok (.iload_n 3, 1) := by decide +kernel
theorem dX12_order_128 : decode cX12_order 128 = .ok (.aload_n 0, 1) := by decide +kernel
theorem dX12_order_129 : decode cX12_order 129 = .ok (.getfield 141, 3) := by decide +kernel
theorem dX12_order_132 : decode cX12_order 132 = .ok (.iconst 0, 1) := by decide +kernel
theorem dX12_order_133 : decode cX12_order 133 = .ok (.iaload, 1) := by decide +kernel
theorem dX12_order_134 : decode cX12_order 134 = .ok (.if_icmp .ge 67, 3) := by decide +kernel
theorem dX12_order_137 : decode cX12_order 137 = .ok (.iconst 0, 1) := by decide +kernel
theorem dX12_order_138 : decode cX12_order 138 = .ok (.istore 4, 2) := by decide +kernel
theorem dX12_order_140 : decode cX12_order 140 = .ok (.iload_n 2, 1) := by decide +kernel
theorem dX12_order_141 : decode cX12_order 141 = .ok (.iload 4, 2) := by decide +kernel
theorem dX12_order_143 : decode cX12_order 143 = .ok (.ishr, 1) := by decide +kernel
theorem dX12_order_144 : decode cX12_order 144 = .ok (.iconst 1, 1) := by decide +kernel
theorem dX12_order_145 : decode cX12_order 145 = .ok (.iand, 1) := by decide +kernel
theorem dX12_order_146 : decode cX12_order 146 = .ok (.iconst 1, 1) := by decide +kernel
theorem dX12_order_147 : decode cX12_order 147 = .ok (.if_icmp .eq 27, 3) := by decide +kernel
theorem dX12_order_150 : decode cX12_order 150 = .ok (.aload_n 0, 1) := by decide +kernel
theorem dX12_order_151 : decode cX12_order 151 = .ok (.getfield 156, 3) := by decide +kernel
theorem dX12_order_154 : decode cX12_order 154 = .ok (.iload_n 2, 1) := by decide +kernel
theorem dX12_order_155 : decode cX12_order 155 = .ok (.iconst 1, 1) := by decide +kernel
theorem dX12_order_156 : decode cX12_order 156 = .ok (.iload 4, 2) := by decide +kernel
theorem dX12_order_158 : decode cX12_order 158 = .ok (.ishl, 1) := by decide +kernel
theorem dX12_order_159 : decode cX12_order 159 = .ok (.ior, 1) := by decide +kernel
theorem dX12_order_160 : decode cX12_order 160 = .ok (.baload, 1) := by decide +kernel
theorem dX12_order_161 : decode cX12_order 161 = .ok (.ifCond .eq 13, 3) := by decide +kernel
theorem dX12_order_164 : decode cX12_order 164 = .ok (.aload_n 0, 1) := by decide +kernel
theorem dX12_order_165 : decode cX12_order 165 = .ok (.iload_n 2, 1) := by decide +kernel
theorem dX12_order_166 : decode cX12_order 166 = .ok (.iload 4, 2) := by decide +kernel
theorem dX12_order_168 : decode cX12_order 168 = .ok (.invokevirtual 526, 3) := by decide +kernel
theorem dX12_order_171 : decode cX12_order 171 = .ok (.ifCond .ne 9, 3) := by decide +kernel
theorem dX12_order_174 : decode cX12_order 174 = .ok (.iinc 4 1, 3) := by decide +kernel
theorem dX12_order_177 : decode cX12_order 177 = .ok (.goto (-37), 3) := by decide +kernel
theorem dX12_order_180 : decode cX12_order 180 = .ok (.aload_n 0, 1) := by decide +kernel
theorem dX12_order_181 : decode cX12_order 181 = .ok (.getfield 159, 3) := by decide +kernel
theorem dX12_order_184 : decode cX12_order 184 = .ok (.iload_n 3, 1) := by decide +kernel
theorem dX12_order_185 : decode cX12_order 185 = .ok (.iload 4, 2) := by decide +kernel
theorem dX12_order_187 : decode cX12_order 187 = .ok (.iastore, 1) := by decide +kernel
theorem dX12_order_188 : decode cX12_order 188 = .ok (.iload_n 2, 1) := by decide +kernel
theorem dX12_order_189 : decode cX12_order 189 = .ok (.iconst 1, 1) := by decide +kernel
theorem dX12_order_190 : decode cX12_order 190 = .ok (.iload 4, 2) := by decide +kernel
theorem dX12_order_192 : decode cX12_order 192 = .ok (.ishl, 1) := by decide +kernel
theorem dX12_order_193 : decode cX12_order 193 = .ok (.ior, 1) := by decide +kernel
theorem dX12_order_194 : decode cX12_order 194 = .ok (.istore_n 2, 1) := by decide +kernel
theorem dX12_order_195 : decode cX12_order 195 = .ok (.iinc 3 1, 3) := by decide +kernel
theorem dX12_order_198 : decode cX12_order 198 = .ok (.goto (-71), 3) := by decide +kernel
theorem dX12_order_201 : decode cX12_order 201 = .ok (.aload_n 0, 1) := by decide +kernel
theorem dX12_order_202 : decode cX12_order 202 = .ok (.aload_n 0, 1) := by decide +kernel
theorem dX12_order_203 : decode cX12_order 203 = .ok (.getfield 141, 3) := by decide +kernel
theorem dX12_order_206 : decode cX12_order 206 = .ok (.iconst 0, 1) := by decide +kernel
theorem dX12_order_207 : decode cX12_order 207 = .ok (.iaload, 1) := by decide +kernel
theorem dX12_order_208 : decode cX12_order 208 = .ok (.putfield 529, 3) := by decide +kernel
theorem dX12_order_211 : decode cX12_order 211 = .ok (.aload_n 0, 1) := by decide +kernel
theorem dX12_order_212 : decode cX12_order 212 = .ok (.getfield 529, 3) := by decide +kernel
theorem dX12_order_215 : decode cX12_order 215 = .ok (.ireturn, 1) := by decide +kernel
theorem dX12_orderAt_0 : decode cX12_orderAt 0 = .ok (.aload_n 0, 1) := by decide +kernel
theorem dX12_orderAt_1 : decode cX12_orderAt 1 = .ok (.iconst 0, 1) := by decide +kernel
theorem dX12_orderAt_2 : decode cX12_orderAt 2 = .ok (.putfield 1, 3) := by decide +kernel
theorem dX12_orderAt_5 : decode cX12_orderAt 5 = .ok (.iload_n 1, 1) := by decide +kernel
theorem dX12_orderAt_6 : decode cX12_orderAt 6 = .ok (.iconst 0, 1) := by decide +kernel
theorem dX12_orderAt_7 : decode cX12_orderAt 7 = .ok (.aload_n 0, 1) := by decide +kernel
theorem dX12_orderAt_8 : decode cX12_orderAt 8 = .ok (.getfield 529, 3) := by decide +kernel
theorem dX12_orderAt_11 : decode cX12_orderAt 11 = .ok (.iconst 1, 1) := by decide +kernel
theorem dX12_orderAt_12 : decode cX12_orderAt 12 = .ok (.isub, 1) := by decide +kernel
theorem dX12_orderAt_13 : decode cX12_orderAt 13 = .ok (.invokestatic 262, 3) := by decide +kernel
theorem dX12_orderAt_16 : decode cX12_orderAt 16 = .ok (.ifCond .eq 12, 3) := by decide +kernel
theorem dX12_orderAt_19 : decode cX12_orderAt 19 = .ok (.aload_n 0, 1) := by decide +kernel
theorem dX12_orderAt_20 : decode cX12_orderAt 20 = .ok (.getfield 159, 3) := by decide +kernel
theorem dX12_orderAt_23 : decode cX12_orderAt 23 = .ok (.iload_n 1, 1) := by decide +kernel
theorem dX12_orderAt_24 : decode cX12_orderAt 24 = .ok (.iaload, 1) := by decide +kernel
theorem dX12_orderAt_25 : decode cX12_orderAt 25 = .ok (.goto 4, 3) := by decide +kernel
theorem dX12_orderAt_28 : decode cX12_orderAt 28 = .ok (.iconst (-1), 1) := by decide +kernel
theorem dX12_orderAt_29 : decode cX12_orderAt 29 = .ok (.ireturn, 1) := by decide +kernel
theorem dX12_check_0 : decode cX12_check 0 = .ok (.aload_n 0, 1) := by decide +kernel
theorem dX12_check_1 : decode cX12_check 1 = .ok (.iconst 0, 1) := by decide +kernel
theorem dX12_check_2 : decode cX12_check 2 = .ok (.putfield 1, 3) := by decide +kernel
theorem dX12_check_5 : decode cX12_check 5 = .ok (.aload_n 0, 1) := by decide +kernel
theorem dX12_check_6 : decode cX12_check 6 = .ok (.sipush 540, 3) := by decide +kernel
theorem dX12_check_9 : decode cX12_check 9 = .ok (.invokevirtual 292, 3) := by decide +kernel
theorem dX12_check_12 : decode cX12_check 12 = .ok (.iconst 0, 1) := by decide +kernel
theorem dX12_check_13 : decode cX12_check 13 = .ok (.istore_n 1, 1) := by decide +kernel
theorem dX12_check_14 : decode cX12_check 14 = .ok (.iconst 0, 1) := by decide +kernel
theorem dX12_check_15 : decode cX12_check 15 = .ok (.istore_n 2, 1) := by decide +kernel
theorem dX12_check_16 : decode cX12_check 16 = .ok (.iload_n 2, 1) := by decide +kernel
theorem dX12_check_17 : decode cX12_check 17 = .ok (.aload_n 0, 1) := by decide +kernel
theorem dX12_check_18 : decode cX12_check 18 = .ok (.getfield 18, 3) := by decide +kernel
theorem dX12_check_21 : decode cX12_check 21 = .ok (.if_icmp .ge 42, 3) := by decide +kernel
theorem dX12_check_24 : decode cX12_check 24 = .ok (.aload_n 0, 1) := by decide +kernel
theorem dX12_check_25 : decode cX12_check 25 = .ok (.iload_n 2, 1) := by decide +kernel
theorem dX12_check_26 : decode cX12_check 26 = .ok (.invokevirtual 400, 3) := by decide +kernel
theorem dX12_check_29 : decode cX12_check 29 = .ok (.istore_n 3, 1) := by decide +kernel
theorem dX12_check_30 : decode cX12_check 30 = .ok (.iload_n 3, 1) := by decide +kernel
theorem dX12_check_31 : decode cX12_check 31 = .ok (.aload_n 0, 1) := by decide +kernel
theorem dX12_check_32 : decode cX12_check 32 = .ok (.getfield 141, 3) := by decide +kernel
theorem dX12_check_35 : decode cX12_check 35 = .ok (.iconst 0, 1) := by decide +kernel
theorem dX12_check_36 : decode cX12_check 36 = .ok (.iaload, 1) := by decide +kernel
theorem dX12_check_37 : decode cX12_check 37 = .ok (.if_icmp .ge 12, 3) := by decide +kernel
theorem dX12_check_40 : decode cX12_check 40 = .ok (.aload_n 0, 1) := by decide +kernel
theorem dX12_check_41 : decode cX12_check 41 = .ok (.iload_n 1, 1) := by decide +kernel
theorem dX12_check_42 : decode cX12_check 42 = .ok (.iload_n 3, 1) := by decide +kernel
theorem dX12_check_43 : decode cX12_check 43 = .ok (.invokevirtual 526, 3) := by decide +kernel
theorem dX12_check_46 : decode cX12_check 46 = .ok (.ifCond .ne 5, 3) := by decide +kernel
theorem dX12_check_49 : decode cX12_check 49 = .ok (.iload_n 2, 1) := by decide +kernel
theorem dX12_check_50 : decode cX12_check 50 = .ok (.ireturn, 1) := by decide +kernel
theorem dX12_check_51 : decode cX12_check 51 = .ok (.iload_n 1, 1) := by decide +kernel
theorem dX12_check_52 : decode cX12_check 52 = .ok (.iconst 1, 1) := by decide +kernel
theorem dX12_check_53 : decode cX12_check 53 = .ok (.iload_n 3, 1) := by decide +kernel
theorem dX12_check_54 : decode cX12_check 54 = .ok (.ishl, 1) := by decide +kernel
theorem dX12_check_55 : decode cX12_check 55 = .ok (.ior, 1) := by decide +kernel
theorem dX12_check_56 : decode cX12_check 56 = .ok (.istore_n 1, 1) := by decide +kernel
theorem dX12_check_57 : decode cX12_check 57 = .ok (.iinc 2 1, 3) := by decide +kernel
theorem dX12_check_60 : decode cX12_check 60 = .ok (.goto (-44), 3) := by decide +kernel
theorem dX12_check_63 : decode cX12_check 63 = .ok (.iload_n 1, 1) := by decide +kernel
theorem dX12_check_64 : decode cX12_check 64 = .ok (.iconst 1, 1) := by decide +kernel
theorem dX12_check_65 : decode cX12_check 65 = .ok (.aload_n 0, 1) := by decide +kernel
theorem dX12_check_66 : decode cX12_check 66 = .ok (.getfield 141, 3) := by decide +kernel
theorem dX12_check_69 : decode cX12_check 69 = .ok (.iconst 0, 1) := by decide +kernel
theorem dX12_check_70 : decode cX12_check 70 = .ok (.iaload, 1) := by decide +kernel
theorem dX12_check_71 : decode cX12_check 71 = .ok (.ishl, 1) := by decide +kernel
theorem dX12_check_72 : decode cX12_check 72 = .ok (.iconst 1, 1) := by decide +kernel
theorem dX12_check_73 : decode cX12_check 73 = .ok (.isub, 1) := by decide +kernel
theorem dX12_check_74 : decode cX12_check 74 = .ok (.if_icmp .ne 7, 3) := by decide +kernel
theorem dX12_check_77 : decode cX12_check 77 = .ok (.iconst (-1), 1) := by decide +kernel
theorem dX12_check_78 : decode cX12_check 78 = .ok (.goto 7, 3) := by decide +kernel
theorem dX12_check_81 : decode cX12_check 81 = .ok (.aload_n 0, 1) := by decide +kernel
theorem dX12_check_82 : decode cX12_check 82 = .ok (.getfield 18, 3) := by decide +kernel
theorem dX12_check_85 : decode cX12_check 85 = .ok (.ireturn, 1) := by decide +kernel
theorem dX12_image_0 : decode cX12_image 0 = .ok (.aload_n 0, 1) := by decide +kernel
theorem dX12_image_1 : decode cX12_image 1 = .ok (.iconst 0, 1) := by decide +kernel
theorem dX12_image_2 : decode cX12_image 2 = .ok (.putfield 1, 3) := by decide +kernel
theorem dX12_image_5 : decode cX12_image 5 = .ok (.iload_n 1, 1) := by decide +kernel
theorem dX12_image_6 : decode cX12_image 6 = .ok (.iconst 0, 1) := by decide +kernel
theorem dX12_image_7 : decode cX12_image 7 = .ok (.iconst 1, 1) := by decide +kernel
theorem dX12_image_8 : decode cX12_image 8 = .ok (.invokestatic 262, 3) := by decide +kernel
theorem dX12_image_11 : decode cX12_image 11 = .ok (.ifCond .ne 5, 3) := by decide +kernel
theorem dX12_image_14 : decode cX12_image 14 = .ok (.iconst 0, 1) := by decide +kernel
theorem dX12_image_15 : decode cX12_image 15 = .ok (.ireturn, 1) := by decide +kernel
theorem dX12_image_16 : decode cX12_image 16 = .ok (.iconst 0, 1) := by decide +kernel
theorem dX12_image_17 : decode cX12_image 17 = .ok (.istore_n 2, 1) := by decide +kernel
theorem dX12_image_18 : decode cX12_image 18 = .ok (.iload_n 2, 1) := by decide +kernel
theorem dX12_image_19 : decode cX12_image 19 = .ok (.sipush 2819, 3) := by decide +kernel
theorem dX12_image_22 : decode cX12_image 22 = .ok (.if_icmp .ge 27, 3) := by decide +kernel
theorem dX12_image_25 : decode cX12_image 25 = .ok (.aload_n 0, 1) := by decide +kernel
theorem dX12_image_26 : decode cX12_image 26 = .ok (.getfield 162, 3) := by decide +kernel
theorem dX12_image_29 : decode cX12_image 29 = .ok (.sipush 2819, 3) := by decide +kernel
theorem dX12_image_32 : decode cX12_image 32 = .ok (.iload_n 1, 1) := by decide +kernel
theorem dX12_image_33 : decode cX12_image 33 = .ok (.imul, 1) := by decide +kernel
theorem dX12_image_34 : decode cX12_image 34 = .ok (.iload_n 2, 1) := by decide +kernel
theorem dX12_image_35 : decode cX12_image 35 = .ok (.iadd, 1) := by decide +kernel
theorem dX12_image_36 : decode cX12_image 36 = .ok (.aload_n 0, 1) := by decide +kernel
theorem dX12_image_37 : decode cX12_image 37 = .ok (.getfield 33, 3) := by decide +kernel
theorem dX12_image_40 : decode cX12_image 40 = .ok (.iload_n 2, 1) := by decide +kernel
theorem dX12_image_41 : decode cX12_image 41 = .ok (.iaload, 1) := by decide +kernel
theorem dX12_image_42 : decode cX12_image 42 = .ok (.iastore, 1) := by decide +kernel
theorem dX12_image_43 : decode cX12_image 43 = .ok (.iinc 2 1, 3) := by decide +kernel
theorem dX12_image_46 : decode cX12_image 46 = .ok (.goto (-28), 3) := by decide +kernel
theorem dX12_image_49 : decode cX12_image 49 = .ok (.iconst 0, 1) := by decide +kernel
theorem dX12_image_50 : decode cX12_image 50 = .ok (.istore_n 2, 1) := by decide +kernel
theorem dX12_image_51 : decode cX12_image 51 = .ok (.iload_n 2, 1) := by decide +kernel
theorem dX12_image_52 : decode cX12_image 52 = .ok (.bipush 14, 2) := by decide +kernel
theorem dX12_image_54 : decode cX12_image 54 = .ok (.if_icmp .ge 26, 3) := by decide +kernel
theorem dX12_image_57 : decode cX12_image 57 = .ok (.aload_n 0, 1) := by decide +kernel
theorem dX12_image_58 : decode cX12_image 58 = .ok (.getfield 165, 3) := by decide +kernel
theorem dX12_image_61 : decode cX12_image 61 = .ok (.bipush 14, 2) := by decide +kernel
theorem dX12_image_63 : decode cX12_image 63 = .ok (.iload_n 1, 1) := by decide +kernel
theorem dX12_image_64 : decode cX12_image 64 = .ok (.imul, 1) := by decide +kernel
theorem dX12_image_65 : decode cX12_image 65 = .ok (.iload_n 2, 1) := by decide +kernel
theorem dX12_image_66 : decode cX12_image 66 = .ok (.iadd, 1) := by decide +kernel
theorem dX12_image_67 : decode cX12_image 67 = .ok (.aload_n 0, 1) := by decide +kernel
theorem dX12_image_68 : decode cX12_image 68 = .ok (.getfield 40, 3) := by decide +kernel
theorem dX12_image_71 : decode cX12_image 71 = .ok (.iload_n 2, 1) := by decide +kernel
theorem dX12_image_72 : decode cX12_image 72 = .ok (.laload, 1) := by decide +kernel
theorem dX12_image_73 : decode cX12_image 73 = .ok (.lastore, 1) := by decide +kernel
theorem dX12_image_74 : decode cX12_image 74 = .ok (.iinc 2 1, 3) := by decide +kernel
theorem dX12_image_77 : decode cX12_image 77 = .ok (.goto (-26), 3) := by decide +kernel
theorem dX12_image_80 : decode cX12_image 80 = .ok (.aload_n 0, 1) := by decide +kernel
theorem dX12_image_81 : decode cX12_image 81 = .ok (.getfield 168, 3) := by decide +kernel
theorem dX12_image_84 : decode cX12_image 84 = .ok (.iload_n 1, 1) := by decide +kernel
theorem dX12_image_85 : decode cX12_image 85 = .ok (.iconst 1, 1) := by decide +kernel
theorem dX12_image_86 : decode cX12_image 86 = .ok (.bastore, 1) := by decide +kernel
theorem dX12_image_87 : decode cX12_image 87 = .ok (.iconst 1, 1) := by decide +kernel
theorem dX12_image_88 : decode cX12_image 88 = .ok (.ireturn, 1) := by decide +kernel
theorem dX12_restore_0 : decode cX12_restore 0 = .ok (.aload_n 0, 1) := by decide +kernel
theorem dX12_restore_1 : decode cX12_restore 1 = .ok (.iconst 0, 1) := by decide +kernel
theorem dX12_restore_2 : decode cX12_restore 2 = .ok (.putfield 1, 3) := by decide +kernel
theorem dX12_restore_5 : decode cX12_restore 5 = .ok (.iload_n 1, 1) := by decide +kernel
theorem dX12_restore_6 : decode cX12_restore 6 = .ok (.iconst 0, 1) := by decide +kernel
theorem dX12_restore_7 : decode cX12_restore 7 = .ok (.iconst 1, 1) := by decide +kernel
theorem dX12_restore_8 : decode cX12_restore 8 = .ok (.invokestatic 262, 3) := by decide +kernel
theorem dX12_restore_11 : decode cX12_restore 11 = .ok (.ifCond .eq 12, 3) := by decide +kernel
theorem dX12_restore_14 : decode cX12_restore 14 = .ok (.aload_n 0, 1) := by decide +kernel
theorem dX12_restore_15 : decode cX12_restore 15 = .ok (.getfield 168, 3) := by decide +kernel
theorem dX12_restore_18 : decode cX12_restore 18 = .ok (.iload_n 1, 1) := by decide +kernel
theorem dX12_restore_19 : decode cX12_restore 19 = .ok (.baload, 1) := by decide +kernel
theorem dX12_restore_20 : decode cX12_restore 20 = .ok (.ifCond .ne 5, 3) := by decide +kernel
theorem dX12_restore_23 : decode cX12_restore 23 = .ok (.iconst 0, 1) := by decide +kernel
theorem dX12_restore_24 : decode cX12_restore 24 = .ok (.ireturn, 1) := by decide +kernel
theorem dX12_restore_25 : decode cX12_restore 25 = .ok (.iconst 0, 1) := by decide +kernel
theorem dX12_restore_26 : decode cX12_restore 26 = .ok (.istore_n 2, 1) := by decide +kernel
theorem dX12_restore_27 : decode cX12_restore 27 = .ok (.iload_n 2, 1) := by decide +kernel
theorem dX12_restore_28 : decode cX12_restore 28 = .ok (.sipush 2819, 3) := by decide +kernel
theorem dX12_restore_31 : decode cX12_restore 31 = .ok (.if_icmp .ge 27, 3) := by decide +kernel
theorem dX12_restore_34 : decode cX12_restore 34 = .ok (.aload_n 0, 1) := by decide +kernel
theorem dX12_restore_35 : decode cX12_restore 35 = .ok (.getfield 33, 3) := by decide +kernel
theorem dX12_restore_38 : decode cX12_restore 38 = .ok (.iload_n 2, 1) := by decide +kernel
theorem dX12_restore_39 : decode cX12_restore 39 = .ok (.aload_n 0, 1) := by decide +kernel
theorem dX12_restore_40 : decode cX12_restore 40 = .ok (.getfield 162, 3) := by decide +kernel
theorem dX12_restore_43 : decode cX12_restore 43 = .ok (.sipush 2819, 3) := by decide +kernel
theorem dX12_restore_46 : decode cX12_restore 46 = .ok (.iload_n 1, 1) := by decide +kernel
theorem dX12_restore_47 : decode cX12_restore 47 = .ok (.imul, 1) := by decide +kernel
theorem dX12_restore_48 : decode cX12_restore 48 = .ok (.iload_n 2, 1) := by decide +kernel
theorem dX12_restore_49 : decode cX12_restore 49 = .ok (.iadd, 1) := by decide +kernel
theorem dX12_restore_50 : decode cX12_restore 50 = .ok (.iaload, 1) := by decide +kernel
theorem dX12_restore_51 : decode cX12_restore 51 = .ok (.iastore, 1) := by decide +kernel
theorem dX12_restore_52 : decode cX12_restore 52 = .ok (.iinc 2 1, 3) := by decide +kernel
theorem dX12_restore_55 : decode cX12_restore 55 = .ok (.goto (-28), 3) := by decide +kernel
theorem dX12_restore_58 : decode cX12_restore 58 = .ok (.iconst 0, 1) := by decide +kernel
theorem dX12_restore_59 : decode cX12_restore 59 = .ok (.istore_n 2, 1) := by decide +kernel
theorem dX12_restore_60 : decode cX12_restore 60 = .ok (.iload_n 2, 1) := by decide +kernel
theorem dX12_restore_61 : decode cX12_restore 61 = .ok (.bipush 14, 2) := by decide +kernel
theorem dX12_restore_63 : decode cX12_restore 63 = .ok (.if_icmp .ge 26, 3) := by decide +kernel
theorem dX12_restore_66 : decode cX12_restore 66 = .ok (.aload_n 0, 1) := by decide +kernel
theorem dX12_restore_67 : decode cX12_restore 67 = .ok (.getfield 40, 3) := by decide +kernel
theorem dX12_restore_70 : decode cX12_restore 70 = .ok (.iload_n 2, 1) := by decide +kernel
theorem dX12_restore_71 : decode cX12_restore 71 = .ok (.aload_n 0, 1) := by decide +kernel
theorem dX12_restore_72 : decode cX12_restore 72 = .ok (.getfield 165, 3) := by decide +kernel
theorem dX12_restore_75 : decode cX12_restore 75 = .ok (.bipush 14, 2) := by decide +kernel
theorem dX12_restore_77 : decode cX12_restore 77 = .ok (.iload_n 1, 1) := by decide +kernel
theorem dX12_restore_78 : decode cX12_restore 78 = .ok (.imul, 1) := by decide +kernel
theorem dX12_restore_79 : decode cX12_restore 79 = .ok (.iload_n 2, 1) := by decide +kernel
theorem dX12_restore_80 : decode cX12_restore 80 = .ok (.iadd, 1) := by decide +kernel
theorem dX12_restore_81 : decode cX12_restore 81 = .ok (.laload, 1) := by decide +kernel
theorem dX12_restore_82 : decode cX12_restore 82 = .ok (.lastore, 1) := by decide +kernel
theorem dX12_restore_83 : decode cX12_restore 83 = .ok (.iinc 2 1, 3) := by decide +kernel
theorem dX12_restore_86 : decode cX12_restore 86 = .ok (.goto (-26), 3) := by decide +kernel
theorem dX12_restore_89 : decode cX12_restore 89 = .ok (.iconst 1, 1) := by decide +kernel
theorem dX12_restore_90 : decode cX12_restore 90 = .ok (.ireturn, 1) := by decide +kernel
theorem dX12_count_0 : decode cX12_count 0 = .ok (.aload_n 0, 1) := by decide +kernel
theorem dX12_count_1 : decode cX12_count 1 = .ok (.iconst 0, 1) := by decide +kernel
theorem dX12_count_2 : decode cX12_count 2 = .ok (.putfield 1, 3) := by decide +kernel
theorem dX12_count_5 : decode cX12_count 5 = .ok (.iload_n 1, 1) := by decide +kernel
theorem dX12_count_6 : decode cX12_count 6 = .ok (.tableswitch 116 0 8 #[50, 57, 64, 72, 80, 88, 96, 104, 111], 50) := by decide +kernel
theorem dX12_count_56 : decode cX12_count 56 = .ok (.aload_n 0, 1) := by decide +kernel
theorem dX12_count_57 : decode cX12_count 57 = .ok (.getfield 33, 3) := by decide +kernel
theorem dX12_count_60 : decode cX12_count 60 = .ok (.iconst 0, 1) := by decide +kernel
theorem dX12_count_61 : decode cX12_count 61 = .ok (.iaload, 1) := by decide +kernel
theorem dX12_count_62 : decode cX12_count 62 = .ok (.ireturn, 1) := by decide +kernel
theorem dX12_count_63 : decode cX12_count 63 = .ok (.aload_n 0, 1) := by decide +kernel
theorem dX12_count_64 : decode cX12_count 64 = .ok (.getfield 33, 3) := by decide +kernel
theorem dX12_count_67 : decode cX12_count 67 = .ok (.iconst 1, 1) := by decide +kernel
theorem dX12_count_68 : decode cX12_count 68 = .ok (.iaload, 1) := by decide +kernel
theorem dX12_count_69 : decode cX12_count 69 = .ok (.ireturn, 1) := by decide +kernel
theorem dX12_count_70 : decode cX12_count 70 = .ok (.aload_n 0, 1) := by decide +kernel
theorem dX12_count_71 : decode cX12_count 71 = .ok (.getfield 33, 3) := by decide +kernel
theorem dX12_count_74 : decode cX12_count 74 = .ok (.bipush 11, 2) := by decide +kernel
theorem dX12_count_76 : decode cX12_count 76 = .ok (.iaload, 1) := by decide +kernel
theorem dX12_count_77 : decode cX12_count 77 = .ok (.ireturn, 1) := by decide +kernel
theorem dX12_count_78 : decode cX12_count 78 = .ok (.aload_n 0, 1) := by decide +kernel
theorem dX12_count_79 : decode cX12_count 79 = .ok (.getfield 33, 3) := by decide +kernel
theorem dX12_count_82 : decode cX12_count 82 = .ok (.bipush 12, 2) := by decide +kernel
theorem dX12_count_84 : decode cX12_count 84 = .ok (.iaload, 1) := by decide +kernel
theorem dX12_count_85 : decode cX12_count 85 = .ok (.ireturn, 1) := by decide +kernel
theorem dX12_count_86 : decode cX12_count 86 = .ok (.aload_n 0, 1) := by decide +kernel
theorem dX12_count_87 : decode cX12_count 87 = .ok (.getfield 33, 3) := by decide +kernel
theorem dX12_count_90 : decode cX12_count 90 = .ok (.bipush 13, 2) := by decide +kernel
theorem dX12_count_92 : decode cX12_count 92 = .ok (.iaload, 1) := by decide +kernel
theorem dX12_count_93 : decode cX12_count 93 = .ok (.ireturn, 1) := by decide +kernel
theorem dX12_count_94 : decode cX12_count 94 = .ok (.aload_n 0, 1) := by decide +kernel
theorem dX12_count_95 : decode cX12_count 95 = .ok (.getfield 33, 3) := by decide +kernel
theorem dX12_count_98 : decode cX12_count 98 = .ok (.bipush 14, 2) := by decide +kernel
theorem dX12_count_100 : decode cX12_count 100 = .ok (.iaload, 1) := by decide +kernel
theorem dX12_count_101 : decode cX12_count 101 = .ok (.ireturn, 1) := by decide +kernel
theorem dX12_count_102 : decode cX12_count 102 = .ok (.aload_n 0, 1) := by decide +kernel
theorem dX12_count_103 : decode cX12_count 103 = .ok (.getfield 33, 3) := by decide +kernel
theorem dX12_count_106 : decode cX12_count 106 = .ok (.bipush 15, 2) := by decide +kernel
theorem dX12_count_108 : decode cX12_count 108 = .ok (.iaload, 1) := by decide +kernel
theorem dX12_count_109 : decode cX12_count 109 = .ok (.ireturn, 1) := by decide +kernel
theorem dX12_count_110 : decode cX12_count 110 = .ok (.aload_n 0, 1) := by decide +kernel
theorem dX12_count_111 : decode cX12_count 111 = .ok (.getfield 141, 3) := by decide +kernel
theorem dX12_count_114 : decode cX12_count 114 = .ok (.iconst 0, 1) := by decide +kernel
theorem dX12_count_115 : decode cX12_count 115 = .ok (.iaload, 1) := by decide +kernel
theorem dX12_count_116 : decode cX12_count 116 = .ok (.ireturn, 1) := by decide +kernel
theorem dX12_count_117 : decode cX12_count 117 = .ok (.aload_n 0, 1) := by decide +kernel
theorem dX12_count_118 : decode cX12_count 118 = .ok (.getfield 7, 3) := by decide +kernel
theorem dX12_count_121 : decode cX12_count 121 = .ok (.ireturn, 1) := by decide +kernel
theorem dX12_count_122 : decode cX12_count 122 = .ok (.iconst (-1), 1) := by decide +kernel
theorem dX12_count_123 : decode cX12_count 123 = .ok (.ireturn, 1) := by decide +kernel
