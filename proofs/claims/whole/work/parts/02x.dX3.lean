theorem dX3_init_0 : decode cX3_init 0 = .ok (.aload_n 0, 1) := by decide +kernel
theorem dX3_init_1 : decode cX3_init 1 = .ok (.invokespecial 3, 3) := by decide +kernel
theorem dX3_init_4 : decode cX3_init 4 = .ok (.aload_n 0, 1) := by decide +kernel
theorem dX3_init_5 : decode cX3_init 5 = .ok (.bipush 40, 2) := by decide +kernel
theorem dX3_init_7 : decode cX3_init 7 = .ok (.newarray .int, 2) := by decide +kernel
theorem dX3_init_9 : decode cX3_init 9 = .ok (.putfield 11, 3) := by decide +kernel
theorem dX3_init_12 : decode cX3_init 12 = .ok (.return_, 1) := by decide +kernel
theorem dX3_copyFrom_0 : decode cX3_copyFrom 0 = .ok (.aload_n 1, 1) := by decide +kernel
theorem dX3_copyFrom_1 : decode cX3_copyFrom 1 = .ok (.getfield 11, 3) := by decide +kernel
theorem dX3_copyFrom_4 : decode cX3_copyFrom 4 = .ok (.iconst 0, 1) := by decide +kernel
theorem dX3_copyFrom_5 : decode cX3_copyFrom 5 = .ok (.aload_n 0, 1) := by decide +kernel
theorem dX3_copyFrom_6 : decode cX3_copyFrom 6 = .ok (.getfield 11, 3) := by decide +kernel
theorem dX3_copyFrom_9 : decode cX3_copyFrom 9 = .ok (.iconst 0, 1) := by decide +kernel
theorem dX3_copyFrom_10 : decode cX3_copyFrom 10 = .ok (.aload_n 0, 1) := by decide +kernel
theorem dX3_copyFrom_11 : decode cX3_copyFrom 11 = .ok (.getfield 11, 3) := by decide +kernel
theorem dX3_copyFrom_14 : decode cX3_copyFrom 14 = .ok (.arraylength, 1) := by decide +kernel
theorem dX3_copyFrom_15 : decode cX3_copyFrom 15 = .ok (.invokestatic 15, 3) := by decide +kernel
theorem dX3_copyFrom_18 : decode cX3_copyFrom 18 = .ok (.aload_n 0, 1) := by decide +kernel
theorem dX3_copyFrom_19 : decode cX3_copyFrom 19 = .ok (.aload_n 1, 1) := by decide +kernel
theorem dX3_copyFrom_20 : decode cX3_copyFrom 20 = .ok (.getfield 21, 3) := by decide +kernel
theorem dX3_copyFrom_23 : decode cX3_copyFrom 23 = .ok (.putfield 21, 3) := by decide +kernel
theorem dX3_copyFrom_26 : decode cX3_copyFrom 26 = .ok (.aload_n 0, 1) := by decide +kernel
theorem dX3_copyFrom_27 : decode cX3_copyFrom 27 = .ok (.aload_n 1, 1) := by decide +kernel
theorem dX3_copyFrom_28 : decode cX3_copyFrom 28 = .ok (.getfield 25, 3) := by decide +kernel
theorem dX3_copyFrom_31 : decode cX3_copyFrom 31 = .ok (.putfield 25, 3) := by decide +kernel
theorem dX3_copyFrom_34 : decode cX3_copyFrom 34 = .ok (.return_, 1) := by decide +kernel
theorem dX3_readFrom_0 : decode cX3_readFrom 0 = .ok (.aload_n 0, 1) := by decide +kernel
theorem dX3_readFrom_1 : decode cX3_readFrom 1 = .ok (.iconst 0, 1) := by decide +kernel
theorem dX3_readFrom_2 : decode cX3_readFrom 2 = .ok (.putfield 21, 3) := by decide +kernel
theorem dX3_readFrom_5 : decode cX3_readFrom 5 = .ok (.aload_n 0, 1) := by decide +kernel
theorem dX3_readFrom_6 : decode cX3_readFrom 6 = .ok (.iconst 0, 1) := by decide +kernel
theorem dX3_readFrom_7 : decode cX3_readFrom 7 = .ok (.putfield 25, 3) := by decide +kernel
theorem dX3_readFrom_10 : decode cX3_readFrom 10 = .ok (.aload_n 1, 1) := by decide +kernel
theorem dX3_readFrom_11 : decode cX3_readFrom 11 = .ok (.sipush 200, 3) := by decide +kernel
theorem dX3_readFrom_14 : decode cX3_readFrom 14 = .ok (.invokevirtual 28, 3) := by decide +kernel
theorem dX3_readFrom_17 : decode cX3_readFrom 17 = .ok (.aload_n 0, 1) := by decide +kernel
theorem dX3_readFrom_18 : decode cX3_readFrom 18 = .ok (.aload_n 1, 1) := by decide +kernel
theorem dX3_readFrom_19 : decode cX3_readFrom 19 = .ok (.aload_n 2, 1) := by decide +kernel
theorem dX3_readFrom_20 : decode cX3_readFrom 20 = .ok (.iconst 1, 1) := by decide +kernel
theorem dX3_readFrom_21 : decode cX3_readFrom 21 = .ok (.invokevirtual 34, 3) := by decide +kernel
theorem dX3_readFrom_24 : decode cX3_readFrom 24 = .ok (.ifCond .ne 5, 3) := by decide +kernel
theorem dX3_readFrom_27 : decode cX3_readFrom 27 = .ok (.iconst 0, 1) := by decide +kernel
theorem dX3_readFrom_28 : decode cX3_readFrom 28 = .ok (.ireturn, 1) := by decide +kernel
theorem dX3_readFrom_29 : decode cX3_readFrom 29 = .ok (.aload_n 1, 1) := by decide +kernel
theorem dX3_readFrom_30 : decode cX3_readFrom 30 = .ok (.getfield 38, 3) := by decide +kernel
theorem dX3_readFrom_33 : decode cX3_readFrom 33 = .ok (.ifCond .eq 11, 3) := by decide +kernel
theorem dX3_readFrom_36 : decode cX3_readFrom 36 = .ok (.aload_n 1, 1) := by decide +kernel
theorem dX3_readFrom_37 : decode cX3_readFrom 37 = .ok (.iconst 1, 1) := by decide +kernel
theorem dX3_readFrom_38 : decode cX3_readFrom 38 = .ok (.invokevirtual 41, 3) := by decide +kernel
theorem dX3_readFrom_41 : decode cX3_readFrom 41 = .ok (.ifCond .eq 7, 3) := by decide +kernel
theorem dX3_readFrom_44 : decode cX3_readFrom 44 = .ok (.iconst 1, 1) := by decide +kernel
theorem dX3_readFrom_45 : decode cX3_readFrom 45 = .ok (.goto 4, 3) := by decide +kernel
theorem dX3_readFrom_48 : decode cX3_readFrom 48 = .ok (.iconst 0, 1) := by decide +kernel
theorem dX3_readFrom_49 : decode cX3_readFrom 49 = .ok (.ireturn, 1) := by decide +kernel
theorem dX3_readCond_0 : decode cX3_readCond 0 = .ok (.aload_n 0, 1) := by decide +kernel
theorem dX3_readCond_1 : decode cX3_readCond 1 = .ok (.aload_n 1, 1) := by decide +kernel
theorem dX3_readCond_2 : decode cX3_readCond 2 = .ok (.aload_n 2, 1) := by decide +kernel
theorem dX3_readCond_3 : decode cX3_readCond 3 = .ok (.iload_n 3, 1) := by decide +kernel
theorem dX3_readCond_4 : decode cX3_readCond 4 = .ok (.invokevirtual 45, 3) := by decide +kernel
theorem dX3_readCond_7 : decode cX3_readCond 7 = .ok (.ifCond .ne 5, 3) := by decide +kernel
theorem dX3_readCond_10 : decode cX3_readCond 10 = .ok (.iconst 0, 1) := by decide +kernel
theorem dX3_readCond_11 : decode cX3_readCond 11 = .ok (.ireturn, 1) := by decide +kernel
theorem dX3_readCond_12 : decode cX3_readCond 12 = .ok (.sipush 540, 3) := by decide +kernel
theorem dX3_readCond_15 : decode cX3_readCond 15 = .ok (.istore 4, 2) := by decide +kernel
theorem dX3_readCond_17 : decode cX3_readCond 17 = .ok (.iload 4, 2) := by decide +kernel
theorem dX3_readCond_19 : decode cX3_readCond 19 = .ok (.ifCond .le 43, 3) := by decide +kernel
theorem dX3_readCond_22 : decode cX3_readCond 22 = .ok (.aload_n 1, 1) := by decide +kernel
theorem dX3_readCond_23 : decode cX3_readCond 23 = .ok (.getfield 48, 3) := by decide +kernel
theorem dX3_readCond_26 : decode cX3_readCond 26 = .ok (.bipush 10, 2) := by decide +kernel
theorem dX3_readCond_28 : decode cX3_readCond 28 = .ok (.if_icmp .ne 34, 3) := by decide +kernel
theorem dX3_readCond_31 : decode cX3_readCond 31 = .ok (.aload_n 1, 1) := by decide +kernel
theorem dX3_readCond_32 : decode cX3_readCond 32 = .ok (.invokevirtual 51, 3) := by decide +kernel
theorem dX3_readCond_35 : decode cX3_readCond 35 = .ok (.aload_n 0, 1) := by decide +kernel
theorem dX3_readCond_36 : decode cX3_readCond 36 = .ok (.aload_n 1, 1) := by decide +kernel
theorem dX3_readCond_37 : decode cX3_readCond 37 = .ok (.aload_n 2, 1) := by decide +kernel
theorem dX3_readCond_38 : decode cX3_readCond 38 = .ok (.iload_n 3, 1) := by decide +kernel
theorem dX3_readCond_39 : decode cX3_readCond 39 = .ok (.invokevirtual 45, 3) := by decide +kernel
theorem dX3_readCond_42 : decode cX3_readCond 42 = .ok (.ifCond .eq 12, 3) := by decide +kernel
theorem dX3_readCond_45 : decode cX3_readCond 45 = .ok (.aload_n 0, 1) := by decide +kernel
theorem dX3_readCond_46 : decode cX3_readCond 46 = .ok (.bipush 10, 2) := by decide +kernel
theorem dX3_readCond_48 : decode cX3_readCond 48 = .ok (.invokevirtual 54, 3) := by decide +kernel
theorem dX3_readCond_51 : decode cX3_readCond 51 = .ok (.ifCond .ne 5, 3) := by decide +kernel
theorem dX3_readCond_54 : decode cX3_readCond 54 = .ok (.iconst 0, 1) := by decide +kernel
theorem dX3_readCond_55 : decode cX3_readCond 55 = .ok (.ireturn, 1) := by decide +kernel
theorem dX3_readCond_56 : decode cX3_readCond 56 = .ok (.iinc 4 (-1), 3) := by decide +kernel
theorem dX3_readCond_59 : decode cX3_readCond 59 = .ok (.goto (-42), 3) := by decide +kernel
theorem dX3_readCond_62 : decode cX3_readCond 62 = .ok (.iconst 1, 1) := by decide +kernel
theorem dX3_readCond_63 : decode cX3_readCond 63 = .ok (.ireturn, 1) := by decide +kernel
theorem dX3_readAll_0 : decode cX3_readAll 0 = .ok (.aload_n 0, 1) := by decide +kernel
theorem dX3_readAll_1 : decode cX3_readAll 1 = .ok (.aload_n 1, 1) := by decide +kernel
theorem dX3_readAll_2 : decode cX3_readAll 2 = .ok (.aload_n 2, 1) := by decide +kernel
theorem dX3_readAll_3 : decode cX3_readAll 3 = .ok (.iload_n 3, 1) := by decide +kernel
theorem dX3_readAll_4 : decode cX3_readAll 4 = .ok (.invokevirtual 57, 3) := by decide +kernel
theorem dX3_readAll_7 : decode cX3_readAll 7 = .ok (.ifCond .ne 5, 3) := by decide +kernel
theorem dX3_readAll_10 : decode cX3_readAll 10 = .ok (.iconst 0, 1) := by decide +kernel
theorem dX3_readAll_11 : decode cX3_readAll 11 = .ok (.ireturn, 1) := by decide +kernel
theorem dX3_readAll_12 : decode cX3_readAll 12 = .ok (.sipush 540, 3) := by decide +kernel
theorem dX3_readAll_15 : decode cX3_readAll 15 = .ok (.istore 4, 2) := by decide +kernel
theorem dX3_readAll_17 : decode cX3_readAll 17 = .ok (.iload 4, 2) := by decide +kernel
theorem dX3_readAll_19 : decode cX3_readAll 19 = .ok (.ifCond .le 43, 3) := by decide +kernel
theorem dX3_readAll_22 : decode cX3_readAll 22 = .ok (.aload_n 1, 1) := by decide +kernel
theorem dX3_readAll_23 : decode cX3_readAll 23 = .ok (.getfield 48, 3) := by decide +kernel
theorem dX3_readAll_26 : decode cX3_readAll 26 = .ok (.bipush 11, 2) := by decide +kernel
theorem dX3_readAll_28 : decode cX3_readAll 28 = .ok (.if_icmp .ne 34, 3) := by decide +kernel
theorem dX3_readAll_31 : decode cX3_readAll 31 = .ok (.aload_n 1, 1) := by decide +kernel
theorem dX3_readAll_32 : decode cX3_readAll 32 = .ok (.invokevirtual 51, 3) := by decide +kernel
theorem dX3_readAll_35 : decode cX3_readAll 35 = .ok (.aload_n 0, 1) := by decide +kernel
theorem dX3_readAll_36 : decode cX3_readAll 36 = .ok (.aload_n 1, 1) := by decide +kernel
theorem dX3_readAll_37 : decode cX3_readAll 37 = .ok (.aload_n 2, 1) := by decide +kernel
theorem dX3_readAll_38 : decode cX3_readAll 38 = .ok (.iload_n 3, 1) := by decide +kernel
theorem dX3_readAll_39 : decode cX3_readAll 39 = .ok (.invokevirtual 57, 3) := by decide +kernel
theorem dX3_readAll_42 : decode cX3_readAll 42 = .ok (.ifCond .eq 12, 3) := by decide +kernel
theorem dX3_readAll_45 : decode cX3_readAll 45 = .ok (.aload_n 0, 1) := by decide +kernel
theorem dX3_readAll_46 : decode cX3_readAll 46 = .ok (.bipush 11, 2) := by decide +kernel
theorem dX3_readAll_48 : decode cX3_readAll 48 = .ok (.invokevirtual 54, 3) := by decide +kernel
theorem dX3_readAll_51 : decode cX3_readAll 51 = .ok (.ifCond .ne 5, 3) := by decide +kernel
theorem dX3_readAll_54 : decode cX3_readAll 54 = .ok (.iconst 0, 1) := by decide +kernel
theorem dX3_readAll_55 : decode cX3_readAll 55 = .ok (.ireturn, 1) := by decide +kernel
theorem dX3_readAll_56 : decode cX3_readAll 56 = .ok (.iinc 4 (-1), 3) := by decide +kernel
theorem dX3_readAll_59 : decode cX3_readAll 59 = .ok (.goto (-42), 3) := by decide +kernel
theorem dX3_readAll_62 : decode cX3_readAll 62 = .ok (.iconst 1, 1) := by decide +kernel
theorem dX3_readAll_63 : decode cX3_readAll 63 = .ok (.ireturn, 1) := by decide +kernel
theorem dX3_readOne_0 : decode cX3_readOne 0 = .ok (.aload_n 1, 1) := by decide +kernel
theorem dX3_readOne_1 : decode cX3_readOne 1 = .ok (.getfield 38, 3) := by decide +kernel
theorem dX3_readOne_4 : decode cX3_readOne 4 = .ok (.bipush 40, 2) := by decide +kernel
theorem dX3_readOne_6 : decode cX3_readOne 6 = .ok (.if_icmp .ne 7, 3) := by decide +kernel
theorem dX3_readOne_9 : decode cX3_readOne 9 = .ok (.iconst 1, 1) := by decide +kernel
theorem dX3_readOne_10 : decode cX3_readOne 10 = .ok (.goto 4, 3) := by decide +kernel
theorem dX3_readOne_13 : decode cX3_readOne 13 = .ok (.iconst 0, 1) := by decide +kernel
theorem dX3_readOne_14 : decode cX3_readOne 14 = .ok (.istore 4, 2) := by decide +kernel
theorem dX3_readOne_16 : decode cX3_readOne 16 = .ok (.aload_n 1, 1) := by decide +kernel
theorem dX3_readOne_17 : decode cX3_readOne 17 = .ok (.getfield 48, 3) := by decide +kernel
theorem dX3_readOne_20 : decode cX3_readOne 20 = .ok (.istore 5, 2) := by decide +kernel
theorem dX3_readOne_22 : decode cX3_readOne 22 = .ok (.iload 4, 2) := by decide +kernel
theorem dX3_readOne_24 : decode cX3_readOne 24 = .ok (.ifCond .ne 23, 3) := by decide +kernel
theorem dX3_readOne_27 : decode cX3_readOne 27 = .ok (.iload 5, 2) := by decide +kernel
theorem dX3_readOne_29 : decode cX3_readOne 29 = .ok (.bipush 12, 2) := by decide +kernel
theorem dX3_readOne_31 : decode cX3_readOne 31 = .ok (.if_icmp .lt 10, 3) := by decide +kernel
theorem dX3_readOne_34 : decode cX3_readOne 34 = .ok (.iload 5, 2) := by decide +kernel
theorem dX3_readOne_36 : decode cX3_readOne 36 = .ok (.bipush 19, 2) := by decide +kernel
theorem dX3_readOne_38 : decode cX3_readOne 38 = .ok (.if_icmp .le 9, 3) := by decide +kernel
theorem dX3_readOne_41 : decode cX3_readOne 41 = .ok (.aload_n 1, 1) := by decide +kernel
theorem dX3_readOne_42 : decode cX3_readOne 42 = .ok (.iconst 1, 1) := by decide +kernel
theorem dX3_readOne_43 : decode cX3_readOne 43 = .ok (.invokevirtual 41, 3) := by decide +kernel
theorem dX3_readOne_46 : decode cX3_readOne 46 = .ok (.ireturn, 1) := by decide +kernel
theorem dX3_readOne_47 : decode cX3_readOne 47 = .ok (.aload_n 0, 1) := by decide +kernel
theorem dX3_readOne_48 : decode cX3_readOne 48 = .ok (.getfield 25, 3) := by decide +kernel
theorem dX3_readOne_51 : decode cX3_readOne 51 = .ok (.bipush 20, 2) := by decide +kernel
theorem dX3_readOne_53 : decode cX3_readOne 53 = .ok (.if_icmp .ge 9, 3) := by decide +kernel
theorem dX3_readOne_56 : decode cX3_readOne 56 = .ok (.iload_n 3, 1) := by decide +kernel
theorem dX3_readOne_57 : decode cX3_readOne 57 = .ok (.bipush 8, 2) := by decide +kernel
theorem dX3_readOne_59 : decode cX3_readOne 59 = .ok (.if_icmp .le 9, 3) := by decide +kernel
theorem dX3_readOne_62 : decode cX3_readOne 62 = .ok (.aload_n 1, 1) := by decide +kernel
theorem dX3_readOne_63 : decode cX3_readOne 63 = .ok (.iconst 4, 1) := by decide +kernel
theorem dX3_readOne_64 : decode cX3_readOne 64 = .ok (.invokevirtual 41, 3) := by decide +kernel
theorem dX3_readOne_67 : decode cX3_readOne 67 = .ok (.ireturn, 1) := by decide +kernel
theorem dX3_readOne_68 : decode cX3_readOne 68 = .ok (.aload_n 0, 1) := by decide +kernel
theorem dX3_readOne_69 : decode cX3_readOne 69 = .ok (.dup, 1) := by decide +kernel
theorem dX3_readOne_70 : decode cX3_readOne 70 = .ok (.getfield 25, 3) := by decide +kernel
theorem dX3_readOne_73 : decode cX3_readOne 73 = .ok (.iconst 1, 1) := by decide +kernel
theorem dX3_readOne_74 : decode cX3_readOne 74 = .ok (.iadd, 1) := by decide +kernel
theorem dX3_readOne_75 : decode cX3_readOne 75 = .ok (.putfield 25, 3) := by decide +kernel
theorem dX3_readOne_78 : decode cX3_readOne 78 = .ok (.aload_n 1, 1) := by decide +kernel
theorem dX3_readOne_79 : decode cX3_readOne 79 = .ok (.invokevirtual 51, 3) := by decide +kernel
theorem dX3_readOne_82 : decode cX3_readOne 82 = .ok (.iload 4, 2) := by decide +kernel
theorem dX3_readOne_84 : decode cX3_readOne 84 = .ok (.ifCond .eq 30, 3) := by decide +kernel
theorem dX3_readOne_87 : decode cX3_readOne 87 = .ok (.aload_n 0, 1) := by decide +kernel
theorem dX3_readOne_88 : decode cX3_readOne 88 = .ok (.aload_n 1, 1) := by decide +kernel
theorem dX3_readOne_89 : decode cX3_readOne 89 = .ok (.aload_n 2, 1) := by decide +kernel
theorem dX3_readOne_90 : decode cX3_readOne 90 = .ok (.iload_n 3, 1) := by decide +kernel
theorem dX3_readOne_91 : decode cX3_readOne 91 = .ok (.iconst 1, 1) := by decide +kernel
theorem dX3_readOne_92 : decode cX3_readOne 92 = .ok (.iadd, 1) := by decide +kernel
theorem dX3_readOne_93 : decode cX3_readOne 93 = .ok (.invokevirtual 34, 3) := by decide +kernel
theorem dX3_readOne_96 : decode cX3_readOne 96 = .ok (.ifCond .eq 16, 3) := by decide +kernel
theorem dX3_readOne_99 : decode cX3_readOne 99 = .ok (.aload_n 1, 1) := by decide +kernel
theorem dX3_readOne_100 : decode cX3_readOne 100 = .ok (.bipush 41, 2) := by decide +kernel
theorem dX3_readOne_102 : decode cX3_readOne 102 = .ok (.invokevirtual 60, 3) := by decide +kernel
theorem dX3_readOne_105 : decode cX3_readOne 105 = .ok (.ifCond .eq 7, 3) := by decide +kernel
theorem dX3_readOne_108 : decode cX3_readOne 108 = .ok (.iconst 1, 1) := by decide +kernel
theorem dX3_readOne_109 : decode cX3_readOne 109 = .ok (.goto 4, 3) := by decide +kernel
theorem dX3_readOne_112 : decode cX3_readOne 112 = .ok (.iconst 0, 1) := by decide +kernel
theorem dX3_readOne_113 : decode cX3_readOne 113 = .ok (.ireturn, 1) := by decide +kernel
theorem dX3_readOne_114 : decode cX3_readOne 114 = .ok (.iload 5, 2) := by decide +kernel
theorem dX3_readOne_116 : decode cX3_readOne 116 = .ok (.bipush 12, 2) := by decide +kernel
theorem dX3_readOne_118 : decode cX3_readOne 118 = .ok (.if_icmp .ne 30, 3) := by decide +kernel
theorem dX3_readOne_121 : decode cX3_readOne 121 = .ok (.aload_n 0, 1) := by decide +kernel
theorem dX3_readOne_122 : decode cX3_readOne 122 = .ok (.aload_n 1, 1) := by decide +kernel
theorem dX3_readOne_123 : decode cX3_readOne 123 = .ok (.aload_n 2, 1) := by decide +kernel
theorem dX3_readOne_124 : decode cX3_readOne 124 = .ok (.iload_n 3, 1) := by decide +kernel
theorem dX3_readOne_125 : decode cX3_readOne 125 = .ok (.iconst 1, 1) := by decide +kernel
theorem dX3_readOne_126 : decode cX3_readOne 126 = .ok (.iadd, 1) := by decide +kernel
theorem dX3_readOne_127 : decode cX3_readOne 127 = .ok (.invokevirtual 57, 3) := by decide +kernel
theorem dX3_readOne_130 : decode cX3_readOne 130 = .ok (.ifCond .eq 16, 3) := by decide +kernel
theorem dX3_readOne_133 : decode cX3_readOne 133 = .ok (.aload_n 0, 1) := by decide +kernel
theorem dX3_readOne_134 : decode cX3_readOne 134 = .ok (.bipush 12, 2) := by decide +kernel
theorem dX3_readOne_136 : decode cX3_readOne 136 = .ok (.invokevirtual 54, 3) := by decide +kernel
theorem dX3_readOne_139 : decode cX3_readOne 139 = .ok (.ifCond .eq 7, 3) := by decide +kernel
theorem dX3_readOne_142 : decode cX3_readOne 142 = .ok (.iconst 1, 1) := by decide +kernel
theorem dX3_readOne_143 : decode cX3_readOne 143 = .ok (.goto 4, 3) := by decide +kernel
theorem dX3_readOne_146 : decode cX3_readOne 146 = .ok (.iconst 0, 1) := by decide +kernel
theorem dX3_readOne_147 : decode cX3_readOne 147 = .ok (.ireturn, 1) := by decide +kernel
theorem dX3_readOne_148 : decode cX3_readOne 148 = .ok (.iload 5, 2) := by decide +kernel
theorem dX3_readOne_150 : decode cX3_readOne 150 = .ok (.bipush 13, 2) := by decide +kernel
theorem dX3_readOne_152 : decode cX3_readOne 152 = .ok (.if_icmp .ne 10, 3) := by decide +kernel
theorem dX3_readOne_155 : decode cX3_readOne 155 = .ok (.aload_n 0, 1) := by decide +kernel
theorem dX3_readOne_156 : decode cX3_readOne 156 = .ok (.aload_n 1, 1) := by decide +kernel
theorem dX3_readOne_157 : decode cX3_readOne 157 = .ok (.aload_n 2, 1) := by decide +kernel
theorem dX3_readOne_158 : decode cX3_readOne 158 = .ok (.invokevirtual 63, 3) := by decide +kernel
theorem dX3_readOne_161 : decode cX3_readOne 161 = .ok (.ireturn, 1) := by decide +kernel
theorem dX3_readOne_162 : decode cX3_readOne 162 = .ok (.iload 5, 2) := by decide +kernel
theorem dX3_readOne_164 : decode cX3_readOne 164 = .ok (.bipush 15, 2) := by decide +kernel
theorem dX3_readOne_166 : decode cX3_readOne 166 = .ok (.if_icmp .gt 12, 3) := by decide +kernel
theorem dX3_readOne_169 : decode cX3_readOne 169 = .ok (.aload_n 0, 1) := by decide +kernel
theorem dX3_readOne_170 : decode cX3_readOne 170 = .ok (.iload 5, 2) := by decide +kernel
theorem dX3_readOne_172 : decode cX3_readOne 172 = .ok (.invokevirtual 54, 3) := by decide +kernel
theorem dX3_readOne_175 : decode cX3_readOne 175 = .ok (.goto 10, 3) := by decide +kernel
theorem dX3_readOne_178 : decode cX3_readOne 178 = .ok (.aload_n 0, 1) := by decide +kernel
theorem dX3_readOne_179 : decode cX3_readOne 179 = .ok (.aload_n 1, 1) := by decide +kernel
theorem dX3_readOne_180 : decode cX3_readOne 180 = .ok (.iload 5, 2) := by decide +kernel
theorem dX3_readOne_182 : decode cX3_readOne 182 = .ok (.invokevirtual 67, 3) := by decide +kernel
theorem dX3_readOne_185 : decode cX3_readOne 185 = .ok (.ireturn, 1) := by decide +kernel
theorem dX3_readBox_0 : decode cX3_readBox 0 = .ok (.aload_n 1, 1) := by decide +kernel
theorem dX3_readBox_1 : decode cX3_readBox 1 = .ok (.invokevirtual 71, 3) := by decide +kernel
theorem dX3_readBox_4 : decode cX3_readBox 4 = .ok (.ifCond .ne 9, 3) := by decide +kernel
theorem dX3_readBox_7 : decode cX3_readBox 7 = .ok (.aload_n 1, 1) := by decide +kernel
theorem dX3_readBox_8 : decode cX3_readBox 8 = .ok (.iconst 1, 1) := by decide +kernel
theorem dX3_readBox_9 : decode cX3_readBox 9 = .ok (.invokevirtual 41, 3) := by decide +kernel
theorem dX3_readBox_12 : decode cX3_readBox 12 = .ok (.ireturn, 1) := by decide +kernel
theorem dX3_readBox_13 : decode cX3_readBox 13 = .ok (.aload_n 2, 1) := by decide +kernel
theorem dX3_readBox_14 : decode cX3_readBox 14 = .ok (.aload_n 1, 1) := by decide +kernel
theorem dX3_readBox_15 : decode cX3_readBox 15 = .ok (.getfield 75, 3) := by decide +kernel
theorem dX3_readBox_18 : decode cX3_readBox 18 = .ok (.invokevirtual 78, 3) := by decide +kernel
theorem dX3_readBox_21 : decode cX3_readBox 21 = .ok (.istore_n 3, 1) := by decide +kernel
theorem dX3_readBox_22 : decode cX3_readBox 22 = .ok (.iload_n 3, 1) := by decide +kernel
theorem dX3_readBox_23 : decode cX3_readBox 23 = .ok (.iconst (-1), 1) := by decide +kernel
theorem dX3_readBox_24 : decode cX3_readBox 24 = .ok (.if_icmp .ne 9, 3) := by decide +kernel
theorem dX3_readBox_27 : decode cX3_readBox 27 = .ok (.aload_n 1, 1) := by decide +kernel
theorem dX3_readBox_28 : decode cX3_readBox 28 = .ok (.iconst 3, 1) := by decide +kernel
theorem dX3_readBox_29 : decode cX3_readBox 29 = .ok (.invokevirtual 41, 3) := by decide +kernel
theorem dX3_readBox_32 : decode cX3_readBox 32 = .ok (.ireturn, 1) := by decide +kernel
theorem dX3_readBox_33 : decode cX3_readBox 33 = .ok (.aload_n 1, 1) := by decide +kernel
theorem dX3_readBox_34 : decode cX3_readBox 34 = .ok (.invokevirtual 51, 3) := by decide +kernel
theorem dX3_readBox_37 : decode cX3_readBox 37 = .ok (.aload_n 0, 1) := by decide +kernel
theorem dX3_readBox_38 : decode cX3_readBox 38 = .ok (.bipush 13, 2) := by decide +kernel
theorem dX3_readBox_40 : decode cX3_readBox 40 = .ok (.iload_n 3, 1) := by decide +kernel
theorem dX3_readBox_41 : decode cX3_readBox 41 = .ok (.bipush 16, 2) := by decide +kernel
theorem dX3_readBox_43 : decode cX3_readBox 43 = .ok (.ishl, 1) := by decide +kernel
theorem dX3_readBox_44 : decode cX3_readBox 44 = .ok (.ior, 1) := by decide +kernel
theorem dX3_readBox_45 : decode cX3_readBox 45 = .ok (.invokevirtual 54, 3) := by decide +kernel
theorem dX3_readBox_48 : decode cX3_readBox 48 = .ok (.ireturn, 1) := by decide +kernel
theorem dX3_readSize_0 : decode cX3_readSize 0 = .ok (.aload_n 1, 1) := by decide +kernel
theorem dX3_readSize_1 : decode cX3_readSize 1 = .ok (.getfield 38, 3) := by decide +kernel
theorem dX3_readSize_4 : decode cX3_readSize 4 = .ok (.istore_n 3, 1) := by decide +kernel
theorem dX3_readSize_5 : decode cX3_readSize 5 = .ok (.iload_n 3, 1) := by decide +kernel
theorem dX3_readSize_6 : decode cX3_readSize 6 = .ok (.bipush 60, 2) := by decide +kernel
theorem dX3_readSize_8 : decode cX3_readSize 8 = .ok (.if_icmp .lt 9, 3) := by decide +kernel
theorem dX3_readSize_11 : decode cX3_readSize 11 = .ok (.iload_n 3, 1) := by decide +kernel
theorem dX3_readSize_12 : decode cX3_readSize 12 = .ok (.bipush 62, 2) := by decide +kernel
theorem dX3_readSize_14 : decode cX3_readSize 14 = .ok (.if_icmp .le 9, 3) := by decide +kernel
theorem dX3_readSize_17 : decode cX3_readSize 17 = .ok (.aload_n 1, 1) := by decide +kernel
theorem dX3_readSize_18 : decode cX3_readSize 18 = .ok (.iconst 1, 1) := by decide +kernel
theorem dX3_readSize_19 : decode cX3_readSize 19 = .ok (.invokevirtual 41, 3) := by decide +kernel
theorem dX3_readSize_22 : decode cX3_readSize 22 = .ok (.ireturn, 1) := by decide +kernel
theorem dX3_readSize_23 : decode cX3_readSize 23 = .ok (.aload_n 1, 1) := by decide +kernel
theorem dX3_readSize_24 : decode cX3_readSize 24 = .ok (.invokevirtual 51, 3) := by decide +kernel
theorem dX3_readSize_27 : decode cX3_readSize 27 = .ok (.aload_n 1, 1) := by decide +kernel
theorem dX3_readSize_28 : decode cX3_readSize 28 = .ok (.getfield 38, 3) := by decide +kernel
theorem dX3_readSize_31 : decode cX3_readSize 31 = .ok (.iconst 3, 1) := by decide +kernel
theorem dX3_readSize_32 : decode cX3_readSize 32 = .ok (.if_icmp .eq 9, 3) := by decide +kernel
theorem dX3_readSize_35 : decode cX3_readSize 35 = .ok (.aload_n 1, 1) := by decide +kernel
theorem dX3_readSize_36 : decode cX3_readSize 36 = .ok (.iconst 1, 1) := by decide +kernel
theorem dX3_readSize_37 : decode cX3_readSize 37 = .ok (.invokevirtual 41, 3) := by decide +kernel
theorem dX3_readSize_40 : decode cX3_readSize 40 = .ok (.ireturn, 1) := by decide +kernel
theorem dX3_readSize_41 : decode cX3_readSize 41 = .ok (.aload_n 1, 1) := by decide +kernel
theorem dX3_readSize_42 : decode cX3_readSize 42 = .ok (.getfield 75, 3) := by decide +kernel
theorem dX3_readSize_45 : decode cX3_readSize 45 = .ok (.istore 4, 2) := by decide +kernel
theorem dX3_readSize_47 : decode cX3_readSize 47 = .ok (.aload_n 1, 1) := by decide +kernel
theorem dX3_readSize_48 : decode cX3_readSize 48 = .ok (.invokevirtual 51, 3) := by decide +kernel
theorem dX3_readSize_51 : decode cX3_readSize 51 = .ok (.aload_n 0, 1) := by decide +kernel
theorem dX3_readSize_52 : decode cX3_readSize 52 = .ok (.iload_n 2, 1) := by decide +kernel
theorem dX3_readSize_53 : decode cX3_readSize 53 = .ok (.iload_n 3, 1) := by decide +kernel
theorem dX3_readSize_54 : decode cX3_readSize 54 = .ok (.bipush 8, 2) := by decide +kernel
theorem dX3_readSize_56 : decode cX3_readSize 56 = .ok (.ishl, 1) := by decide +kernel
theorem dX3_readSize_57 : decode cX3_readSize 57 = .ok (.ior, 1) := by decide +kernel
theorem dX3_readSize_58 : decode cX3_readSize 58 = .ok (.iload 4, 2) := by decide +kernel
theorem dX3_readSize_60 : decode cX3_readSize 60 = .ok (.bipush 16, 2) := by decide +kernel
theorem dX3_readSize_62 : decode cX3_readSize 62 = .ok (.ishl, 1) := by decide +kernel
theorem dX3_readSize_63 : decode cX3_readSize 63 = .ok (.ior, 1) := by decide +kernel
theorem dX3_readSize_64 : decode cX3_readSize 64 = .ok (.invokevirtual 54, 3) := by decide +kernel
theorem dX3_readSize_67 : decode cX3_readSize 67 = .ok (.ireturn, 1) := by decide +kernel
theorem dX3_addStep_0 : decode cX3_addStep 0 = .ok (.aload_n 0, 1) := by decide +kernel
theorem dX3_addStep_1 : decode cX3_addStep 1 = .ok (.getfield 21, 3) := by decide +kernel
theorem dX3_addStep_4 : decode cX3_addStep 4 = .ok (.aload_n 0, 1) := by decide +kernel
theorem dX3_addStep_5 : decode cX3_addStep 5 = .ok (.getfield 11, 3) := by decide +kernel
theorem dX3_addStep_8 : decode cX3_addStep 8 = .ok (.arraylength, 1) := by decide +kernel
theorem dX3_addStep_9 : decode cX3_addStep 9 = .ok (.if_icmp .lt 5, 3) := by decide +kernel
theorem dX3_addStep_12 : decode cX3_addStep 12 = .ok (.iconst 0, 1) := by decide +kernel
theorem dX3_addStep_13 : decode cX3_addStep 13 = .ok (.ireturn, 1) := by decide +kernel
theorem dX3_addStep_14 : decode cX3_addStep 14 = .ok (.aload_n 0, 1) := by decide +kernel
theorem dX3_addStep_15 : decode cX3_addStep 15 = .ok (.getfield 11, 3) := by decide +kernel
theorem dX3_addStep_18 : decode cX3_addStep 18 = .ok (.aload_n 0, 1) := by decide +kernel
theorem dX3_addStep_19 : decode cX3_addStep 19 = .ok (.getfield 21, 3) := by decide +kernel
theorem dX3_addStep_22 : decode cX3_addStep 22 = .ok (.iload_n 1, 1) := by decide +kernel
theorem dX3_addStep_23 : decode cX3_addStep 23 = .ok (.iastore, 1) := by decide +kernel
theorem dX3_addStep_24 : decode cX3_addStep 24 = .ok (.aload_n 0, 1) := by decide +kernel
theorem dX3_addStep_25 : decode cX3_addStep 25 = .ok (.dup, 1) := by decide +kernel
theorem dX3_addStep_26 : decode cX3_addStep 26 = .ok (.getfield 21, 3) := by decide +kernel
theorem dX3_addStep_29 : decode cX3_addStep 29 = .ok (.iconst 1, 1) := by decide +kernel
theorem dX3_addStep_30 : decode cX3_addStep 30 = .ok (.iadd, 1) := by decide +kernel
theorem dX3_addStep_31 : decode cX3_addStep 31 = .ok (.putfield 21, 3) := by decide +kernel
theorem dX3_addStep_34 : decode cX3_addStep 34 = .ok (.iconst 1, 1) := by decide +kernel
theorem dX3_addStep_35 : decode cX3_addStep 35 = .ok (.ireturn, 1) := by decide +kernel
theorem dX3_fits_0 : decode cX3_fits 0 = .ok (.iconst 0, 1) := by decide +kernel
theorem dX3_fits_1 : decode cX3_fits 1 = .ok (.istore 4, 2) := by decide +kernel
theorem dX3_fits_3 : decode cX3_fits 3 = .ok (.iconst 0, 1) := by decide +kernel
theorem dX3_fits_4 : decode cX3_fits 4 = .ok (.istore 5, 2) := by decide +kernel
theorem dX3_fits_6 : decode cX3_fits 6 = .ok (.iload 5, 2) := by decide +kernel
theorem dX3_fits_8 : decode cX3_fits 8 = .ok (.aload_n 0, 1) := by decide +kernel
theorem dX3_fits_9 : decode cX3_fits 9 = .ok (.getfield 21, 3) := by decide +kernel
theorem dX3_fits_12 : decode cX3_fits 12 = .ok (.if_icmp .ge 109, 3) := by decide +kernel
theorem dX3_fits_15 : decode cX3_fits 15 = .ok (.aload_n 0, 1) := by decide +kernel
theorem dX3_fits_16 : decode cX3_fits 16 = .ok (.getfield 11, 3) := by decide +kernel
theorem dX3_fits_19 : decode cX3_fits 19 = .ok (.iload 5, 2) := by decide +kernel
theorem dX3_fits_21 : decode cX3_fits 21 = .ok (.iaload, 1) := by decide +kernel
theorem dX3_fits_22 : decode cX3_fits 22 = .ok (.sipush 255, 3) := by decide +kernel
theorem dX3_fits_25 : decode cX3_fits 25 = .ok (.iand, 1) := by decide +kernel
theorem dX3_fits_26 : decode cX3_fits 26 = .ok (.istore 6, 2) := by decide +kernel
theorem dX3_fits_28 : decode cX3_fits 28 = .ok (.iload 6, 2) := by decide +kernel
theorem dX3_fits_30 : decode cX3_fits 30 = .ok (.bipush 12, 2) := by decide +kernel
theorem dX3_fits_32 : decode cX3_fits 32 = .ok (.if_icmp .ne 12, 3) := by decide +kernel
theorem dX3_fits_35 : decode cX3_fits 35 = .ok (.iload 4, 2) := by decide +kernel
theorem dX3_fits_37 : decode cX3_fits 37 = .ok (.iconst 1, 1) := by decide +kernel
theorem dX3_fits_38 : decode cX3_fits 38 = .ok (.ixor, 1) := by decide +kernel
theorem dX3_fits_39 : decode cX3_fits 39 = .ok (.istore 4, 2) := by decide +kernel
theorem dX3_fits_41 : decode cX3_fits 41 = .ok (.goto 74, 3) := by decide +kernel
theorem dX3_fits_44 : decode cX3_fits 44 = .ok (.iload 6, 2) := by decide +kernel
theorem dX3_fits_46 : decode cX3_fits 46 = .ok (.bipush 11, 2) := by decide +kernel
theorem dX3_fits_48 : decode cX3_fits 48 = .ok (.if_icmp .ne 18, 3) := by decide +kernel
theorem dX3_fits_51 : decode cX3_fits 51 = .ok (.iload 4, 2) := by decide +kernel
theorem dX3_fits_53 : decode cX3_fits 53 = .ok (.iconst 1, 1) := by decide +kernel
theorem dX3_fits_54 : decode cX3_fits 54 = .ok (.ishr, 1) := by decide +kernel
theorem dX3_fits_55 : decode cX3_fits 55 = .ok (.iload 4, 2) := by decide +kernel
theorem dX3_fits_57 : decode cX3_fits 57 = .ok (.bipush (-2), 2) := by decide +kernel
theorem dX3_fits_59 : decode cX3_fits 59 = .ok (.ior, 1) := by decide +kernel
theorem dX3_fits_60 : decode cX3_fits 60 = .ok (.iand, 1) := by decide +kernel
theorem dX3_fits_61 : decode cX3_fits 61 = .ok (.istore 4, 2) := by decide +kernel
theorem dX3_fits_63 : decode cX3_fits 63 = .ok (.goto 52, 3) := by decide +kernel
theorem dX3_fits_66 : decode cX3_fits 66 = .ok (.iload 6, 2) := by decide +kernel
theorem dX3_fits_68 : decode cX3_fits 68 = .ok (.bipush 10, 2) := by decide +kernel
theorem dX3_fits_70 : decode cX3_fits 70 = .ok (.if_icmp .ne 17, 3) := by decide +kernel
theorem dX3_fits_73 : decode cX3_fits 73 = .ok (.iload 4, 2) := by decide +kernel
theorem dX3_fits_75 : decode cX3_fits 75 = .ok (.iconst 1, 1) := by decide +kernel
theorem dX3_fits_76 : decode cX3_fits 76 = .ok (.ishr, 1) := by decide +kernel
theorem dX3_fits_77 : decode cX3_fits 77 = .ok (.iload 4, 2) := by decide +kernel
theorem dX3_fits_79 : decode cX3_fits 79 = .ok (.iconst 1, 1) := by decide +kernel
theorem dX3_fits_80 : decode cX3_fits 80 = .ok (.iand, 1) := by decide +kernel
theorem dX3_fits_81 : decode cX3_fits 81 = .ok (.ior, 1) := by decide +kernel
theorem dX3_fits_82 : decode cX3_fits 82 = .ok (.istore 4, 2) := by decide +kernel
theorem dX3_fits_84 : decode cX3_fits 84 = .ok (.goto 31, 3) := by decide +kernel
theorem dX3_fits_87 : decode cX3_fits 87 = .ok (.iload 4, 2) := by decide +kernel
theorem dX3_fits_89 : decode cX3_fits 89 = .ok (.iconst 1, 1) := by decide +kernel
theorem dX3_fits_90 : decode cX3_fits 90 = .ok (.ishl, 1) := by decide +kernel
theorem dX3_fits_91 : decode cX3_fits 91 = .ok (.aload_n 0, 1) := by decide +kernel
theorem dX3_fits_92 : decode cX3_fits 92 = .ok (.getfield 11, 3) := by decide +kernel
theorem dX3_fits_95 : decode cX3_fits 95 = .ok (.iload 5, 2) := by decide +kernel
theorem dX3_fits_97 : decode cX3_fits 97 = .ok (.iaload, 1) := by decide +kernel
theorem dX3_fits_98 : decode cX3_fits 98 = .ok (.aload_n 1, 1) := by decide +kernel
theorem dX3_fits_99 : decode cX3_fits 99 = .ok (.aload_n 2, 1) := by decide +kernel
theorem dX3_fits_100 : decode cX3_fits 100 = .ok (.iload_n 3, 1) := by decide +kernel
theorem dX3_fits_101 : decode cX3_fits 101 = .ok (.invokestatic 84, 3) := by decide +kernel
theorem dX3_fits_104 : decode cX3_fits 104 = .ok (.ifCond .eq 7, 3) := by decide +kernel
theorem dX3_fits_107 : decode cX3_fits 107 = .ok (.iconst 1, 1) := by decide +kernel
theorem dX3_fits_108 : decode cX3_fits 108 = .ok (.goto 4, 3) := by decide +kernel
theorem dX3_fits_111 : decode cX3_fits 111 = .ok (.iconst 0, 1) := by decide +kernel
theorem dX3_fits_112 : decode cX3_fits 112 = .ok (.ior, 1) := by decide +kernel
theorem dX3_fits_113 : decode cX3_fits 113 = .ok (.istore 4, 2) := by decide +kernel
theorem dX3_fits_115 : decode cX3_fits 115 = .ok (.iinc 5 1, 3) := by decide +kernel
theorem dX3_fits_118 : decode cX3_fits 118 = .ok (.goto (-112), 3) := by decide +kernel
theorem dX3_fits_121 : decode cX3_fits 121 = .ok (.iload 4, 2) := by decide +kernel
theorem dX3_fits_123 : decode cX3_fits 123 = .ok (.iconst 1, 1) := by decide +kernel
theorem dX3_fits_124 : decode cX3_fits 124 = .ok (.iand, 1) := by decide +kernel
theorem dX3_fits_125 : decode cX3_fits 125 = .ok (.ifCond .eq 7, 3) := by decide +kernel
theorem dX3_fits_128 : decode cX3_fits 128 = .ok (.iconst 1, 1) := by decide +kernel
theorem dX3_fits_129 : decode cX3_fits 129 = .ok (.goto 4, 3) := by decide +kernel
theorem dX3_fits_132 : decode cX3_fits 132 = .ok (.iconst 0, 1) := by decide +kernel
theorem dX3_fits_133 : decode cX3_fits 133 = .ok (.ireturn, 1) := by decide +kernel
theorem dX3_holds_0 : decode cX3_holds 0 = .ok (.iload_n 0, 1) := by decide +kernel
theorem dX3_holds_1 : decode cX3_holds 1 = .ok (.bipush 16, 2) := by decide +kernel
theorem dX3_holds_3 : decode cX3_holds 3 = .ok (.ishr, 1) := by decide +kernel
theorem dX3_holds_4 : decode cX3_holds 4 = .ok (.istore 4, 2) := by decide +kernel
theorem dX3_holds_6 : decode cX3_holds 6 = .ok (.iload_n 0, 1) := by decide +kernel
theorem dX3_holds_7 : decode cX3_holds 7 = .ok (.sipush 255, 3) := by decide +kernel
theorem dX3_holds_10 : decode cX3_holds 10 = .ok (.iand, 1) := by decide +kernel
theorem dX3_holds_11 : decode cX3_holds 11 = .ok (.tableswitch 106 13 19 #[41, 58, 72, 106, 106, 106, 91], 41) := by decide +kernel
theorem dX3_holds_52 : decode cX3_holds 52 = .ok (.aload_n 1, 1) := by decide +kernel
theorem dX3_holds_53 : decode cX3_holds 53 = .ok (.getfield 88, 3) := by decide +kernel
theorem dX3_holds_56 : decode cX3_holds 56 = .ok (.iload_n 3, 1) := by decide +kernel
theorem dX3_holds_57 : decode cX3_holds 57 = .ok (.iaload, 1) := by decide +kernel
theorem dX3_holds_58 : decode cX3_holds 58 = .ok (.iload 4, 2) := by decide +kernel
theorem dX3_holds_60 : decode cX3_holds 60 = .ok (.if_icmp .ne 7, 3) := by decide +kernel
theorem dX3_holds_63 : decode cX3_holds 63 = .ok (.iconst 1, 1) := by decide +kernel
theorem dX3_holds_64 : decode cX3_holds 64 = .ok (.goto 4, 3) := by decide +kernel
theorem dX3_holds_67 : decode cX3_holds 67 = .ok (.iconst 0, 1) := by decide +kernel
theorem dX3_holds_68 : decode cX3_holds 68 = .ok (.ireturn, 1) := by decide +kernel
theorem dX3_holds_69 : decode cX3_holds 69 = .ok (.aload_n 1, 1) := by decide +kernel
theorem dX3_holds_70 : decode cX3_holds 70 = .ok (.iload_n 3, 1) := by decide +kernel
theorem dX3_holds_71 : decode cX3_holds 71 = .ok (.invokevirtual 93, 3) := by decide +kernel
theorem dX3_holds_74 : decode cX3_holds 74 = .ok (.ifCond .eq 7, 3) := by decide +kernel
theorem dX3_holds_77 : decode cX3_holds 77 = .ok (.iconst 1, 1) := by decide +kernel
theorem dX3_holds_78 : decode cX3_holds 78 = .ok (.goto 4, 3) := by decide +kernel
theorem dX3_holds_81 : decode cX3_holds 81 = .ok (.iconst 0, 1) := by decide +kernel
theorem dX3_holds_82 : decode cX3_holds 82 = .ok (.ireturn, 1) := by decide +kernel
theorem dX3_holds_83 : decode cX3_holds 83 = .ok (.aload_n 1, 1) := by decide +kernel
theorem dX3_holds_84 : decode cX3_holds 84 = .ok (.getfield 96, 3) := by decide +kernel
theorem dX3_holds_87 : decode cX3_holds 87 = .ok (.getfield 100, 3) := by decide +kernel
theorem dX3_holds_90 : decode cX3_holds 90 = .ok (.iload_n 3, 1) := by decide +kernel
theorem dX3_holds_91 : decode cX3_holds 91 = .ok (.iaload, 1) := by decide +kernel
theorem dX3_holds_92 : decode cX3_holds 92 = .ok (.iconst (-1), 1) := by decide +kernel
theorem dX3_holds_93 : decode cX3_holds 93 = .ok (.if_icmp .eq 7, 3) := by decide +kernel
theorem dX3_holds_96 : decode cX3_holds 96 = .ok (.iconst 1, 1) := by decide +kernel
theorem dX3_holds_97 : decode cX3_holds 97 = .ok (.goto 4, 3) := by decide +kernel
theorem dX3_holds_100 : decode cX3_holds 100 = .ok (.iconst 0, 1) := by decide +kernel
theorem dX3_holds_101 : decode cX3_holds 101 = .ok (.ireturn, 1) := by decide +kernel
theorem dX3_holds_102 : decode cX3_holds 102 = .ok (.iload_n 3, 1) := by decide +kernel
theorem dX3_holds_103 : decode cX3_holds 103 = .ok (.iload_n 0, 1) := by decide +kernel
theorem dX3_holds_104 : decode cX3_holds 104 = .ok (.bipush 8, 2) := by decide +kernel
theorem dX3_holds_106 : decode cX3_holds 106 = .ok (.ishr, 1) := by decide +kernel
theorem dX3_holds_107 : decode cX3_holds 107 = .ok (.sipush 255, 3) := by decide +kernel
theorem dX3_holds_110 : decode cX3_holds 110 = .ok (.iand, 1) := by decide +kernel
theorem dX3_holds_111 : decode cX3_holds 111 = .ok (.iload 4, 2) := by decide +kernel
theorem dX3_holds_113 : decode cX3_holds 113 = .ok (.invokestatic 105, 3) := by decide +kernel
theorem dX3_holds_116 : decode cX3_holds 116 = .ok (.ireturn, 1) := by decide +kernel
theorem dX3_holds_117 : decode cX3_holds 117 = .ok (.aload_n 2, 1) := by decide +kernel
theorem dX3_holds_118 : decode cX3_holds 118 = .ok (.iload_n 3, 1) := by decide +kernel
theorem dX3_holds_119 : decode cX3_holds 119 = .ok (.invokevirtual 109, 3) := by decide +kernel
theorem dX3_holds_122 : decode cX3_holds 122 = .ok (.ifCond .eq 38, 3) := by decide +kernel
theorem dX3_holds_125 : decode cX3_holds 125 = .ok (.aload_n 2, 1) := by decide +kernel
theorem dX3_holds_126 : decode cX3_holds 126 = .ok (.iload_n 3, 1) := by decide +kernel
theorem dX3_holds_127 : decode cX3_holds 127 = .ok (.iload_n 0, 1) := by decide +kernel
theorem dX3_holds_128 : decode cX3_holds 128 = .ok (.sipush 255, 3) := by decide +kernel
theorem dX3_holds_131 : decode cX3_holds 131 = .ok (.iand, 1) := by decide +kernel
theorem dX3_holds_132 : decode cX3_holds 132 = .ok (.bipush 16, 2) := by decide +kernel
theorem dX3_holds_134 : decode cX3_holds 134 = .ok (.isub, 1) := by decide +kernel
theorem dX3_holds_135 : decode cX3_holds 135 = .ok (.iconst 1, 1) := by decide +kernel
theorem dX3_holds_136 : decode cX3_holds 136 = .ok (.iadd, 1) := by decide +kernel
theorem dX3_holds_137 : decode cX3_holds 137 = .ok (.invokevirtual 114, 3) := by decide +kernel
theorem dX3_holds_140 : decode cX3_holds 140 = .ok (.iload_n 0, 1) := by decide +kernel
theorem dX3_holds_141 : decode cX3_holds 141 = .ok (.bipush 8, 2) := by decide +kernel
theorem dX3_holds_143 : decode cX3_holds 143 = .ok (.ishr, 1) := by decide +kernel
theorem dX3_holds_144 : decode cX3_holds 144 = .ok (.sipush 255, 3) := by decide +kernel
theorem dX3_holds_147 : decode cX3_holds 147 = .ok (.iand, 1) := by decide +kernel
theorem dX3_holds_148 : decode cX3_holds 148 = .ok (.iload 4, 2) := by decide +kernel
theorem dX3_holds_150 : decode cX3_holds 150 = .ok (.invokestatic 105, 3) := by decide +kernel
theorem dX3_holds_153 : decode cX3_holds 153 = .ok (.ifCond .eq 7, 3) := by decide +kernel
theorem dX3_holds_156 : decode cX3_holds 156 = .ok (.iconst 1, 1) := by decide +kernel
theorem dX3_holds_157 : decode cX3_holds 157 = .ok (.goto 4, 3) := by decide +kernel
theorem dX3_holds_160 : decode cX3_holds 160 = .ok (.iconst 0, 1) := by decide +kernel
theorem dX3_holds_161 : decode cX3_holds 161 = .ok (.ireturn, 1) := by decide +kernel
theorem dX3_compares_0 : decode cX3_compares 0 = .ok (.iload_n 1, 1) := by decide +kernel
theorem dX3_compares_1 : decode cX3_compares 1 = .ok (.bipush 61, 2) := by decide +kernel
theorem dX3_compares_3 : decode cX3_compares 3 = .ok (.if_icmp .ne 14, 3) := by decide +kernel
theorem dX3_compares_6 : decode cX3_compares 6 = .ok (.iload_n 0, 1) := by decide +kernel
theorem dX3_compares_7 : decode cX3_compares 7 = .ok (.iload_n 2, 1) := by decide +kernel
theorem dX3_compares_8 : decode cX3_compares 8 = .ok (.if_icmp .ne 7, 3) := by decide +kernel
theorem dX3_compares_11 : decode cX3_compares 11 = .ok (.iconst 1, 1) := by decide +kernel
theorem dX3_compares_12 : decode cX3_compares 12 = .ok (.goto 4, 3) := by decide +kernel
theorem dX3_compares_15 : decode cX3_compares 15 = .ok (.iconst 0, 1) := by decide +kernel
theorem dX3_compares_16 : decode cX3_compares 16 = .ok (.ireturn, 1) := by decide +kernel
theorem dX3_compares_17 : decode cX3_compares 17 = .ok (.iload_n 1, 1) := by decide +kernel
theorem dX3_compares_18 : decode cX3_compares 18 = .ok (.bipush 60, 2) := by decide +kernel
theorem dX3_compares_20 : decode cX3_compares 20 = .ok (.if_icmp .ne 16, 3) := by decide +kernel
theorem dX3_compares_23 : decode cX3_compares 23 = .ok (.iload_n 0, 1) := by decide +kernel
theorem dX3_compares_24 : decode cX3_compares 24 = .ok (.iload_n 2, 1) := by decide +kernel
theorem dX3_compares_25 : decode cX3_compares 25 = .ok (.if_icmp .ge 7, 3) := by decide +kernel
theorem dX3_compares_28 : decode cX3_compares 28 = .ok (.iconst 1, 1) := by decide +kernel
theorem dX3_compares_29 : decode cX3_compares 29 = .ok (.goto 17, 3) := by decide +kernel
theorem dX3_compares_32 : decode cX3_compares 32 = .ok (.iconst 0, 1) := by decide +kernel
theorem dX3_compares_33 : decode cX3_compares 33 = .ok (.goto 13, 3) := by decide +kernel
theorem dX3_compares_36 : decode cX3_compares 36 = .ok (.iload_n 0, 1) := by decide +kernel
theorem dX3_compares_37 : decode cX3_compares 37 = .ok (.iload_n 2, 1) := by decide +kernel
theorem dX3_compares_38 : decode cX3_compares 38 = .ok (.if_icmp .le 7, 3) := by decide +kernel
theorem dX3_compares_41 : decode cX3_compares 41 = .ok (.iconst 1, 1) := by decide +kernel
theorem dX3_compares_42 : decode cX3_compares 42 = .ok (.goto 4, 3) := by decide +kernel
theorem dX3_compares_45 : decode cX3_compares 45 = .ok (.iconst 0, 1) := by decide +kernel
theorem dX3_compares_46 : decode cX3_compares 46 = .ok (.ireturn, 1) := by decide +kernel
