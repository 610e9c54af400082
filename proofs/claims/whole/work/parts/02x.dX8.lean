theorem dX8_init_0 : decode cX8_init 0 = .ok (.aload_n 0, 1) := by decide +kernel
theorem dX8_init_1 : decode cX8_init 1 = .ok (.invokespecial 3, 3) := by decide +kernel
theorem dX8_init_4 : decode cX8_init 4 = .ok (.aload_n 0, 1) := by decide +kernel
theorem dX8_init_5 : decode cX8_init 5 = .ok (.iconst 1, 1) := by decide +kernel
theorem dX8_init_6 : decode cX8_init 6 = .ok (.putfield 9, 3) := by decide +kernel
theorem dX8_init_9 : decode cX8_init 9 = .ok (.aload_n 0, 1) := by decide +kernel
theorem dX8_init_10 : decode cX8_init 10 = .ok (.bipush 6, 2) := by decide +kernel
theorem dX8_init_12 : decode cX8_init 12 = .ok (.newarray .boolean, 2) := by decide +kernel
theorem dX8_init_14 : decode cX8_init 14 = .ok (.putfield 15, 3) := by decide +kernel
theorem dX8_init_17 : decode cX8_init 17 = .ok (.aload_n 0, 1) := by decide +kernel
theorem dX8_init_18 : decode cX8_init 18 = .ok (.bipush 6, 2) := by decide +kernel
theorem dX8_init_20 : decode cX8_init 20 = .ok (.newarray .int, 2) := by decide +kernel
theorem dX8_init_22 : decode cX8_init 22 = .ok (.putfield 19, 3) := by decide +kernel
theorem dX8_init_25 : decode cX8_init 25 = .ok (.aload_n 0, 1) := by decide +kernel
theorem dX8_init_26 : decode cX8_init 26 = .ok (.bipush 6, 2) := by decide +kernel
theorem dX8_init_28 : decode cX8_init 28 = .ok (.newarray .int, 2) := by decide +kernel
theorem dX8_init_30 : decode cX8_init 30 = .ok (.putfield 23, 3) := by decide +kernel
theorem dX8_init_33 : decode cX8_init 33 = .ok (.aload_n 0, 1) := by decide +kernel
theorem dX8_init_34 : decode cX8_init 34 = .ok (.bipush 60, 2) := by decide +kernel
theorem dX8_init_36 : decode cX8_init 36 = .ok (.newarray .int, 2) := by decide +kernel
theorem dX8_init_38 : decode cX8_init 38 = .ok (.putfield 26, 3) := by decide +kernel
theorem dX8_init_41 : decode cX8_init 41 = .ok (.aload_n 0, 1) := by decide +kernel
theorem dX8_init_42 : decode cX8_init 42 = .ok (.bipush 60, 2) := by decide +kernel
theorem dX8_init_44 : decode cX8_init 44 = .ok (.newarray .int, 2) := by decide +kernel
theorem dX8_init_46 : decode cX8_init 46 = .ok (.putfield 29, 3) := by decide +kernel
theorem dX8_init_49 : decode cX8_init 49 = .ok (.aload_n 0, 1) := by decide +kernel
theorem dX8_init_50 : decode cX8_init 50 = .ok (.bipush 60, 2) := by decide +kernel
theorem dX8_init_52 : decode cX8_init 52 = .ok (.newarray .int, 2) := by decide +kernel
theorem dX8_init_54 : decode cX8_init 54 = .ok (.putfield 32, 3) := by decide +kernel
theorem dX8_init_57 : decode cX8_init 57 = .ok (.aload_n 0, 1) := by decide +kernel
theorem dX8_init_58 : decode cX8_init 58 = .ok (.bipush 60, 2) := by decide +kernel
theorem dX8_init_60 : decode cX8_init 60 = .ok (.newarray .int, 2) := by decide +kernel
theorem dX8_init_62 : decode cX8_init 62 = .ok (.putfield 35, 3) := by decide +kernel
theorem dX8_init_65 : decode cX8_init 65 = .ok (.aload_n 0, 1) := by decide +kernel
theorem dX8_init_66 : decode cX8_init 66 = .ok (.bipush 60, 2) := by decide +kernel
theorem dX8_init_68 : decode cX8_init 68 = .ok (.newarray .int, 2) := by decide +kernel
theorem dX8_init_70 : decode cX8_init 70 = .ok (.putfield 38, 3) := by decide +kernel
theorem dX8_init_73 : decode cX8_init 73 = .ok (.aload_n 0, 1) := by decide +kernel
theorem dX8_init_74 : decode cX8_init 74 = .ok (.sipush 360, 3) := by decide +kernel
theorem dX8_init_77 : decode cX8_init 77 = .ok (.newarray .int, 2) := by decide +kernel
theorem dX8_init_79 : decode cX8_init 79 = .ok (.putfield 41, 3) := by decide +kernel
theorem dX8_init_82 : decode cX8_init 82 = .ok (.aload_n 0, 1) := by decide +kernel
theorem dX8_init_83 : decode cX8_init 83 = .ok (.bipush 60, 2) := by decide +kernel
theorem dX8_init_85 : decode cX8_init 85 = .ok (.newarray .int, 2) := by decide +kernel
theorem dX8_init_87 : decode cX8_init 87 = .ok (.putfield 44, 3) := by decide +kernel
theorem dX8_init_90 : decode cX8_init 90 = .ok (.return_, 1) := by decide +kernel
theorem dX8_has_0 : decode cX8_has 0 = .ok (.aload_n 0, 1) := by decide +kernel
theorem dX8_has_1 : decode cX8_has 1 = .ok (.getfield 32, 3) := by decide +kernel
theorem dX8_has_4 : decode cX8_has 4 = .ok (.iload_n 1, 1) := by decide +kernel
theorem dX8_has_5 : decode cX8_has 5 = .ok (.iaload, 1) := by decide +kernel
theorem dX8_has_6 : decode cX8_has 6 = .ok (.ifCond .le 7, 3) := by decide +kernel
theorem dX8_has_9 : decode cX8_has 9 = .ok (.iconst 1, 1) := by decide +kernel
theorem dX8_has_10 : decode cX8_has 10 = .ok (.goto 4, 3) := by decide +kernel
theorem dX8_has_13 : decode cX8_has 13 = .ok (.iconst 0, 1) := by decide +kernel
theorem dX8_has_14 : decode cX8_has 14 = .ok (.ireturn, 1) := by decide +kernel
theorem dX8_flowOf_0 : decode cX8_flowOf 0 = .ok (.ldc 47, 2) := by decide +kernel
theorem dX8_flowOf_2 : decode cX8_flowOf 2 = .ok (.aload_n 0, 1) := by decide +kernel
theorem dX8_flowOf_3 : decode cX8_flowOf 3 = .ok (.getfield 29, 3) := by decide +kernel
theorem dX8_flowOf_6 : decode cX8_flowOf 6 = .ok (.iload_n 1, 1) := by decide +kernel
theorem dX8_flowOf_7 : decode cX8_flowOf 7 = .ok (.iaload, 1) := by decide +kernel
theorem dX8_flowOf_8 : decode cX8_flowOf 8 = .ok (.invokestatic 48, 3) := by decide +kernel
theorem dX8_flowOf_11 : decode cX8_flowOf 11 = .ok (.ireturn, 1) := by decide +kernel
theorem dX8_toldOf_0 : decode cX8_toldOf 0 = .ok (.aload_n 0, 1) := by decide +kernel
theorem dX8_toldOf_1 : decode cX8_toldOf 1 = .ok (.iload_n 1, 1) := by decide +kernel
theorem dX8_toldOf_2 : decode cX8_toldOf 2 = .ok (.invokevirtual 52, 3) := by decide +kernel
theorem dX8_toldOf_5 : decode cX8_toldOf 5 = .ok (.ifCond .ne 5, 3) := by decide +kernel
theorem dX8_toldOf_8 : decode cX8_toldOf 8 = .ok (.iconst (-1), 1) := by decide +kernel
theorem dX8_toldOf_9 : decode cX8_toldOf 9 = .ok (.ireturn, 1) := by decide +kernel
theorem dX8_toldOf_10 : decode cX8_toldOf 10 = .ok (.iload_n 2, 1) := by decide +kernel
theorem dX8_toldOf_11 : decode cX8_toldOf 11 = .ok (.iconst 3, 1) := by decide +kernel
theorem dX8_toldOf_12 : decode cX8_toldOf 12 = .ok (.if_icmp .ne 17, 3) := by decide +kernel
theorem dX8_toldOf_15 : decode cX8_toldOf 15 = .ok (.aload_n 0, 1) := by decide +kernel
theorem dX8_toldOf_16 : decode cX8_toldOf 16 = .ok (.getfield 38, 3) := by decide +kernel
theorem dX8_toldOf_19 : decode cX8_toldOf 19 = .ok (.iload_n 1, 1) := by decide +kernel
theorem dX8_toldOf_20 : decode cX8_toldOf 20 = .ok (.iaload, 1) := by decide +kernel
theorem dX8_toldOf_21 : decode cX8_toldOf 21 = .ok (.aload_n 0, 1) := by decide +kernel
theorem dX8_toldOf_22 : decode cX8_toldOf 22 = .ok (.getfield 35, 3) := by decide +kernel
theorem dX8_toldOf_25 : decode cX8_toldOf 25 = .ok (.iload_n 1, 1) := by decide +kernel
theorem dX8_toldOf_26 : decode cX8_toldOf 26 = .ok (.iaload, 1) := by decide +kernel
theorem dX8_toldOf_27 : decode cX8_toldOf 27 = .ok (.isub, 1) := by decide +kernel
theorem dX8_toldOf_28 : decode cX8_toldOf 28 = .ok (.ireturn, 1) := by decide +kernel
theorem dX8_toldOf_29 : decode cX8_toldOf 29 = .ok (.iload_n 2, 1) := by decide +kernel
theorem dX8_toldOf_30 : decode cX8_toldOf 30 = .ok (.iconst 1, 1) := by decide +kernel
theorem dX8_toldOf_31 : decode cX8_toldOf 31 = .ok (.if_icmp .ne 12, 3) := by decide +kernel
theorem dX8_toldOf_34 : decode cX8_toldOf 34 = .ok (.aload_n 0, 1) := by decide +kernel
theorem dX8_toldOf_35 : decode cX8_toldOf 35 = .ok (.getfield 26, 3) := by decide +kernel
theorem dX8_toldOf_38 : decode cX8_toldOf 38 = .ok (.iload_n 1, 1) := by decide +kernel
theorem dX8_toldOf_39 : decode cX8_toldOf 39 = .ok (.iaload, 1) := by decide +kernel
theorem dX8_toldOf_40 : decode cX8_toldOf 40 = .ok (.goto 9, 3) := by decide +kernel
theorem dX8_toldOf_43 : decode cX8_toldOf 43 = .ok (.aload_n 0, 1) := by decide +kernel
theorem dX8_toldOf_44 : decode cX8_toldOf 44 = .ok (.getfield 29, 3) := by decide +kernel
theorem dX8_toldOf_47 : decode cX8_toldOf 47 = .ok (.iload_n 1, 1) := by decide +kernel
theorem dX8_toldOf_48 : decode cX8_toldOf 48 = .ok (.iaload, 1) := by decide +kernel
theorem dX8_toldOf_49 : decode cX8_toldOf 49 = .ok (.ireturn, 1) := by decide +kernel
theorem dX8_mostSpread_0 : decode cX8_mostSpread 0 = .ok (.iconst (-1), 1) := by decide +kernel
theorem dX8_mostSpread_1 : decode cX8_mostSpread 1 = .ok (.istore_n 2, 1) := by decide +kernel
theorem dX8_mostSpread_2 : decode cX8_mostSpread 2 = .ok (.iconst (-1), 1) := by decide +kernel
theorem dX8_mostSpread_3 : decode cX8_mostSpread 3 = .ok (.istore_n 3, 1) := by decide +kernel
theorem dX8_mostSpread_4 : decode cX8_mostSpread 4 = .ok (.iconst 0, 1) := by decide +kernel
theorem dX8_mostSpread_5 : decode cX8_mostSpread 5 = .ok (.istore 4, 2) := by decide +kernel
theorem dX8_mostSpread_7 : decode cX8_mostSpread 7 = .ok (.iload 4, 2) := by decide +kernel
theorem dX8_mostSpread_9 : decode cX8_mostSpread 9 = .ok (.iload_n 1, 1) := by decide +kernel
theorem dX8_mostSpread_10 : decode cX8_mostSpread 10 = .ok (.if_icmp .ge 42, 3) := by decide +kernel
theorem dX8_mostSpread_13 : decode cX8_mostSpread 13 = .ok (.aload_n 0, 1) := by decide +kernel
theorem dX8_mostSpread_14 : decode cX8_mostSpread 14 = .ok (.getfield 32, 3) := by decide +kernel
theorem dX8_mostSpread_17 : decode cX8_mostSpread 17 = .ok (.iload 4, 2) := by decide +kernel
theorem dX8_mostSpread_19 : decode cX8_mostSpread 19 = .ok (.iaload, 1) := by decide +kernel
theorem dX8_mostSpread_20 : decode cX8_mostSpread 20 = .ok (.iconst 1, 1) := by decide +kernel
theorem dX8_mostSpread_21 : decode cX8_mostSpread 21 = .ok (.if_icmp .le 25, 3) := by decide +kernel
theorem dX8_mostSpread_24 : decode cX8_mostSpread 24 = .ok (.aload_n 0, 1) := by decide +kernel
theorem dX8_mostSpread_25 : decode cX8_mostSpread 25 = .ok (.iload 4, 2) := by decide +kernel
theorem dX8_mostSpread_27 : decode cX8_mostSpread 27 = .ok (.iconst 3, 1) := by decide +kernel
theorem dX8_mostSpread_28 : decode cX8_mostSpread 28 = .ok (.invokevirtual 56, 3) := by decide +kernel
theorem dX8_mostSpread_31 : decode cX8_mostSpread 31 = .ok (.iload_n 3, 1) := by decide +kernel
theorem dX8_mostSpread_32 : decode cX8_mostSpread 32 = .ok (.if_icmp .le 14, 3) := by decide +kernel
theorem dX8_mostSpread_35 : decode cX8_mostSpread 35 = .ok (.aload_n 0, 1) := by decide +kernel
theorem dX8_mostSpread_36 : decode cX8_mostSpread 36 = .ok (.iload 4, 2) := by decide +kernel
theorem dX8_mostSpread_38 : decode cX8_mostSpread 38 = .ok (.iconst 3, 1) := by decide +kernel
theorem dX8_mostSpread_39 : decode cX8_mostSpread 39 = .ok (.invokevirtual 56, 3) := by decide +kernel
theorem dX8_mostSpread_42 : decode cX8_mostSpread 42 = .ok (.istore_n 3, 1) := by decide +kernel
theorem dX8_mostSpread_43 : decode cX8_mostSpread 43 = .ok (.iload 4, 2) := by decide +kernel
theorem dX8_mostSpread_45 : decode cX8_mostSpread 45 = .ok (.istore_n 2, 1) := by decide +kernel
theorem dX8_mostSpread_46 : decode cX8_mostSpread 46 = .ok (.iinc 4 1, 3) := by decide +kernel
theorem dX8_mostSpread_49 : decode cX8_mostSpread 49 = .ok (.goto (-42), 3) := by decide +kernel
theorem dX8_mostSpread_52 : decode cX8_mostSpread 52 = .ok (.iload_n 2, 1) := by decide +kernel
theorem dX8_mostSpread_53 : decode cX8_mostSpread 53 = .ok (.ireturn, 1) := by decide +kernel
theorem dX8_refresh_0 : decode cX8_refresh 0 = .ok (.aload_n 0, 1) := by decide +kernel
theorem dX8_refresh_1 : decode cX8_refresh 1 = .ok (.getfield 9, 3) := by decide +kernel
theorem dX8_refresh_4 : decode cX8_refresh 4 = .ok (.ifCond .ne 4, 3) := by decide +kernel
theorem dX8_refresh_7 : decode cX8_refresh 7 = .ok (.return_, 1) := by decide +kernel
theorem dX8_refresh_8 : decode cX8_refresh 8 = .ok (.aload_n 0, 1) := by decide +kernel
theorem dX8_refresh_9 : decode cX8_refresh 9 = .ok (.iconst 0, 1) := by decide +kernel
theorem dX8_refresh_10 : decode cX8_refresh 10 = .ok (.putfield 9, 3) := by decide +kernel
theorem dX8_refresh_13 : decode cX8_refresh 13 = .ok (.iconst 0, 1) := by decide +kernel
theorem dX8_refresh_14 : decode cX8_refresh 14 = .ok (.istore_n 2, 1) := by decide +kernel
theorem dX8_refresh_15 : decode cX8_refresh 15 = .ok (.iload_n 2, 1) := by decide +kernel
theorem dX8_refresh_16 : decode cX8_refresh 16 = .ok (.bipush 6, 2) := by decide +kernel
theorem dX8_refresh_18 : decode cX8_refresh 18 = .ok (.if_icmp .ge 48, 3) := by decide +kernel
theorem dX8_refresh_21 : decode cX8_refresh 21 = .ok (.aload_n 0, 1) := by decide +kernel
theorem dX8_refresh_22 : decode cX8_refresh 22 = .ok (.getfield 15, 3) := by decide +kernel
theorem dX8_refresh_25 : decode cX8_refresh 25 = .ok (.iload_n 2, 1) := by decide +kernel
theorem dX8_refresh_26 : decode cX8_refresh 26 = .ok (.iload_n 2, 1) := by decide +kernel
theorem dX8_refresh_27 : decode cX8_refresh 27 = .ok (.ifCond .ne 17, 3) := by decide +kernel
theorem dX8_refresh_30 : decode cX8_refresh 30 = .ok (.aload_n 1, 1) := by decide +kernel
theorem dX8_refresh_31 : decode cX8_refresh 31 = .ok (.getfield 59, 3) := by decide +kernel
theorem dX8_refresh_34 : decode cX8_refresh 34 = .ok (.getfield 65, 3) := by decide +kernel
theorem dX8_refresh_37 : decode cX8_refresh 37 = .ok (.ifCond .le 7, 3) := by decide +kernel
theorem dX8_refresh_40 : decode cX8_refresh 40 = .ok (.iconst 1, 1) := by decide +kernel
theorem dX8_refresh_41 : decode cX8_refresh 41 = .ok (.goto 4, 3) := by decide +kernel
theorem dX8_refresh_44 : decode cX8_refresh 44 = .ok (.iconst 0, 1) := by decide +kernel
theorem dX8_refresh_45 : decode cX8_refresh 45 = .ok (.bastore, 1) := by decide +kernel
theorem dX8_refresh_46 : decode cX8_refresh 46 = .ok (.aload_n 0, 1) := by decide +kernel
theorem dX8_refresh_47 : decode cX8_refresh 47 = .ok (.getfield 19, 3) := by decide +kernel
theorem dX8_refresh_50 : decode cX8_refresh 50 = .ok (.iload_n 2, 1) := by decide +kernel
theorem dX8_refresh_51 : decode cX8_refresh 51 = .ok (.iconst 0, 1) := by decide +kernel
theorem dX8_refresh_52 : decode cX8_refresh 52 = .ok (.iastore, 1) := by decide +kernel
theorem dX8_refresh_53 : decode cX8_refresh 53 = .ok (.aload_n 0, 1) := by decide +kernel
theorem dX8_refresh_54 : decode cX8_refresh 54 = .ok (.getfield 23, 3) := by decide +kernel
theorem dX8_refresh_57 : decode cX8_refresh 57 = .ok (.iload_n 2, 1) := by decide +kernel
theorem dX8_refresh_58 : decode cX8_refresh 58 = .ok (.iconst 0, 1) := by decide +kernel
theorem dX8_refresh_59 : decode cX8_refresh 59 = .ok (.iastore, 1) := by decide +kernel
theorem dX8_refresh_60 : decode cX8_refresh 60 = .ok (.iinc 2 1, 3) := by decide +kernel
theorem dX8_refresh_63 : decode cX8_refresh 63 = .ok (.goto (-48), 3) := by decide +kernel
theorem dX8_refresh_66 : decode cX8_refresh 66 = .ok (.aload_n 0, 1) := by decide +kernel
theorem dX8_refresh_67 : decode cX8_refresh 67 = .ok (.aload_n 1, 1) := by decide +kernel
theorem dX8_refresh_68 : decode cX8_refresh 68 = .ok (.invokevirtual 71, 3) := by decide +kernel
theorem dX8_refresh_71 : decode cX8_refresh 71 = .ok (.aload_n 0, 1) := by decide +kernel
theorem dX8_refresh_72 : decode cX8_refresh 72 = .ok (.aload_n 1, 1) := by decide +kernel
theorem dX8_refresh_73 : decode cX8_refresh 73 = .ok (.invokevirtual 75, 3) := by decide +kernel
theorem dX8_refresh_76 : decode cX8_refresh 76 = .ok (.aload_n 1, 1) := by decide +kernel
theorem dX8_refresh_77 : decode cX8_refresh 77 = .ok (.getfield 59, 3) := by decide +kernel
theorem dX8_refresh_80 : decode cX8_refresh 80 = .ok (.getfield 65, 3) := by decide +kernel
theorem dX8_refresh_83 : decode cX8_refresh 83 = .ok (.iconst 1, 1) := by decide +kernel
theorem dX8_refresh_84 : decode cX8_refresh 84 = .ok (.isub, 1) := by decide +kernel
theorem dX8_refresh_85 : decode cX8_refresh 85 = .ok (.istore_n 2, 1) := by decide +kernel
theorem dX8_refresh_86 : decode cX8_refresh 86 = .ok (.iload_n 2, 1) := by decide +kernel
theorem dX8_refresh_87 : decode cX8_refresh 87 = .ok (.ifCond .le 79, 3) := by decide +kernel
theorem dX8_refresh_90 : decode cX8_refresh 90 = .ok (.aload_n 0, 1) := by decide +kernel
theorem dX8_refresh_91 : decode cX8_refresh 91 = .ok (.aload_n 1, 1) := by decide +kernel
theorem dX8_refresh_92 : decode cX8_refresh 92 = .ok (.invokevirtual 78, 3) := by decide +kernel
theorem dX8_refresh_95 : decode cX8_refresh 95 = .ok (.istore_n 3, 1) := by decide +kernel
theorem dX8_refresh_96 : decode cX8_refresh 96 = .ok (.iload_n 3, 1) := by decide +kernel
theorem dX8_refresh_97 : decode cX8_refresh 97 = .ok (.iconst (-1), 1) := by decide +kernel
theorem dX8_refresh_98 : decode cX8_refresh 98 = .ok (.if_icmp .ne 4, 3) := by decide +kernel
theorem dX8_refresh_101 : decode cX8_refresh 101 = .ok (.return_, 1) := by decide +kernel
theorem dX8_refresh_102 : decode cX8_refresh 102 = .ok (.aload_n 0, 1) := by decide +kernel
theorem dX8_refresh_103 : decode cX8_refresh 103 = .ok (.getfield 19, 3) := by decide +kernel
theorem dX8_refresh_106 : decode cX8_refresh 106 = .ok (.iload_n 3, 1) := by decide +kernel
theorem dX8_refresh_107 : decode cX8_refresh 107 = .ok (.aload_n 0, 1) := by decide +kernel
theorem dX8_refresh_108 : decode cX8_refresh 108 = .ok (.iload_n 3, 1) := by decide +kernel
theorem dX8_refresh_109 : decode cX8_refresh 109 = .ok (.aload_n 1, 1) := by decide +kernel
theorem dX8_refresh_110 : decode cX8_refresh 110 = .ok (.getfield 82, 3) := by decide +kernel
theorem dX8_refresh_113 : decode cX8_refresh 113 = .ok (.aload_n 0, 1) := by decide +kernel
theorem dX8_refresh_114 : decode cX8_refresh 114 = .ok (.getfield 26, 3) := by decide +kernel
theorem dX8_refresh_117 : decode cX8_refresh 117 = .ok (.aload_n 1, 1) := by decide +kernel
theorem dX8_refresh_118 : decode cX8_refresh 118 = .ok (.getfield 85, 3) := by decide +kernel
theorem dX8_refresh_121 : decode cX8_refresh 121 = .ok (.invokevirtual 88, 3) := by decide +kernel
theorem dX8_refresh_124 : decode cX8_refresh 124 = .ok (.iastore, 1) := by decide +kernel
theorem dX8_refresh_125 : decode cX8_refresh 125 = .ok (.aload_n 0, 1) := by decide +kernel
theorem dX8_refresh_126 : decode cX8_refresh 126 = .ok (.getfield 23, 3) := by decide +kernel
theorem dX8_refresh_129 : decode cX8_refresh 129 = .ok (.iload_n 3, 1) := by decide +kernel
theorem dX8_refresh_130 : decode cX8_refresh 130 = .ok (.aload_n 0, 1) := by decide +kernel
theorem dX8_refresh_131 : decode cX8_refresh 131 = .ok (.iload_n 3, 1) := by decide +kernel
theorem dX8_refresh_132 : decode cX8_refresh 132 = .ok (.aload_n 1, 1) := by decide +kernel
theorem dX8_refresh_133 : decode cX8_refresh 133 = .ok (.getfield 92, 3) := by decide +kernel
theorem dX8_refresh_136 : decode cX8_refresh 136 = .ok (.aload_n 0, 1) := by decide +kernel
theorem dX8_refresh_137 : decode cX8_refresh 137 = .ok (.getfield 29, 3) := by decide +kernel
theorem dX8_refresh_140 : decode cX8_refresh 140 = .ok (.aload_n 1, 1) := by decide +kernel
theorem dX8_refresh_141 : decode cX8_refresh 141 = .ok (.getfield 85, 3) := by decide +kernel
theorem dX8_refresh_144 : decode cX8_refresh 144 = .ok (.invokevirtual 88, 3) := by decide +kernel
theorem dX8_refresh_147 : decode cX8_refresh 147 = .ok (.iastore, 1) := by decide +kernel
theorem dX8_refresh_148 : decode cX8_refresh 148 = .ok (.aload_n 0, 1) := by decide +kernel
theorem dX8_refresh_149 : decode cX8_refresh 149 = .ok (.getfield 15, 3) := by decide +kernel
theorem dX8_refresh_152 : decode cX8_refresh 152 = .ok (.iload_n 3, 1) := by decide +kernel
theorem dX8_refresh_153 : decode cX8_refresh 153 = .ok (.iconst 1, 1) := by decide +kernel
theorem dX8_refresh_154 : decode cX8_refresh 154 = .ok (.bastore, 1) := by decide +kernel
theorem dX8_refresh_155 : decode cX8_refresh 155 = .ok (.aload_n 0, 1) := by decide +kernel
theorem dX8_refresh_156 : decode cX8_refresh 156 = .ok (.aload_n 1, 1) := by decide +kernel
theorem dX8_refresh_157 : decode cX8_refresh 157 = .ok (.invokevirtual 75, 3) := by decide +kernel
theorem dX8_refresh_160 : decode cX8_refresh 160 = .ok (.iinc 2 (-1), 3) := by decide +kernel
theorem dX8_refresh_163 : decode cX8_refresh 163 = .ok (.goto (-77), 3) := by decide +kernel
theorem dX8_refresh_166 : decode cX8_refresh 166 = .ok (.return_, 1) := by decide +kernel
theorem dX8_findFirst_0 : decode cX8_findFirst 0 = .ok (.iconst 0, 1) := by decide +kernel
theorem dX8_findFirst_1 : decode cX8_findFirst 1 = .ok (.istore_n 2, 1) := by decide +kernel
theorem dX8_findFirst_2 : decode cX8_findFirst 2 = .ok (.iload_n 2, 1) := by decide +kernel
theorem dX8_findFirst_3 : decode cX8_findFirst 3 = .ok (.aload_n 1, 1) := by decide +kernel
theorem dX8_findFirst_4 : decode cX8_findFirst 4 = .ok (.getfield 85, 3) := by decide +kernel
theorem dX8_findFirst_7 : decode cX8_findFirst 7 = .ok (.bipush 6, 2) := by decide +kernel
theorem dX8_findFirst_9 : decode cX8_findFirst 9 = .ok (.imul, 1) := by decide +kernel
theorem dX8_findFirst_10 : decode cX8_findFirst 10 = .ok (.if_icmp .ge 16, 3) := by decide +kernel
theorem dX8_findFirst_13 : decode cX8_findFirst 13 = .ok (.aload_n 0, 1) := by decide +kernel
theorem dX8_findFirst_14 : decode cX8_findFirst 14 = .ok (.getfield 41, 3) := by decide +kernel
theorem dX8_findFirst_17 : decode cX8_findFirst 17 = .ok (.iload_n 2, 1) := by decide +kernel
theorem dX8_findFirst_18 : decode cX8_findFirst 18 = .ok (.iconst (-1), 1) := by decide +kernel
theorem dX8_findFirst_19 : decode cX8_findFirst 19 = .ok (.iastore, 1) := by decide +kernel
theorem dX8_findFirst_20 : decode cX8_findFirst 20 = .ok (.iinc 2 1, 3) := by decide +kernel
theorem dX8_findFirst_23 : decode cX8_findFirst 23 = .ok (.goto (-21), 3) := by decide +kernel
theorem dX8_findFirst_26 : decode cX8_findFirst 26 = .ok (.aload_n 1, 1) := by decide +kernel
theorem dX8_findFirst_27 : decode cX8_findFirst 27 = .ok (.getfield 95, 3) := by decide +kernel
theorem dX8_findFirst_30 : decode cX8_findFirst 30 = .ok (.iconst 1, 1) := by decide +kernel
theorem dX8_findFirst_31 : decode cX8_findFirst 31 = .ok (.isub, 1) := by decide +kernel
theorem dX8_findFirst_32 : decode cX8_findFirst 32 = .ok (.istore_n 2, 1) := by decide +kernel
theorem dX8_findFirst_33 : decode cX8_findFirst 33 = .ok (.iload_n 2, 1) := by decide +kernel
theorem dX8_findFirst_34 : decode cX8_findFirst 34 = .ok (.ifCond .lt 31, 3) := by decide +kernel
theorem dX8_findFirst_37 : decode cX8_findFirst 37 = .ok (.aload_n 0, 1) := by decide +kernel
theorem dX8_findFirst_38 : decode cX8_findFirst 38 = .ok (.getfield 41, 3) := by decide +kernel
theorem dX8_findFirst_41 : decode cX8_findFirst 41 = .ok (.aload_n 1, 1) := by decide +kernel
theorem dX8_findFirst_42 : decode cX8_findFirst 42 = .ok (.getfield 98, 3) := by decide +kernel
theorem dX8_findFirst_45 : decode cX8_findFirst 45 = .ok (.iload_n 2, 1) := by decide +kernel
theorem dX8_findFirst_46 : decode cX8_findFirst 46 = .ok (.iaload, 1) := by decide +kernel
theorem dX8_findFirst_47 : decode cX8_findFirst 47 = .ok (.bipush 6, 2) := by decide +kernel
theorem dX8_findFirst_49 : decode cX8_findFirst 49 = .ok (.imul, 1) := by decide +kernel
theorem dX8_findFirst_50 : decode cX8_findFirst 50 = .ok (.aload_n 1, 1) := by decide +kernel
theorem dX8_findFirst_51 : decode cX8_findFirst 51 = .ok (.getfield 101, 3) := by decide +kernel
theorem dX8_findFirst_54 : decode cX8_findFirst 54 = .ok (.iload_n 2, 1) := by decide +kernel
theorem dX8_findFirst_55 : decode cX8_findFirst 55 = .ok (.iaload, 1) := by decide +kernel
theorem dX8_findFirst_56 : decode cX8_findFirst 56 = .ok (.iadd, 1) := by decide +kernel
theorem dX8_findFirst_57 : decode cX8_findFirst 57 = .ok (.iload_n 2, 1) := by decide +kernel
theorem dX8_findFirst_58 : decode cX8_findFirst 58 = .ok (.iastore, 1) := by decide +kernel
theorem dX8_findFirst_59 : decode cX8_findFirst 59 = .ok (.iinc 2 (-1), 3) := by decide +kernel
theorem dX8_findFirst_62 : decode cX8_findFirst 62 = .ok (.goto (-29), 3) := by decide +kernel
theorem dX8_findFirst_65 : decode cX8_findFirst 65 = .ok (.return_, 1) := by decide +kernel
theorem dX8_shares_0 : decode cX8_shares 0 = .ok (.aload_n 0, 1) := by decide +kernel
theorem dX8_shares_1 : decode cX8_shares 1 = .ok (.iload_n 1, 1) := by decide +kernel
theorem dX8_shares_2 : decode cX8_shares 2 = .ok (.invokevirtual 52, 3) := by decide +kernel
theorem dX8_shares_5 : decode cX8_shares 5 = .ok (.ifCond .eq 22, 3) := by decide +kernel
theorem dX8_shares_8 : decode cX8_shares 8 = .ok (.aload_n 0, 1) := by decide +kernel
theorem dX8_shares_9 : decode cX8_shares 9 = .ok (.getfield 41, 3) := by decide +kernel
theorem dX8_shares_12 : decode cX8_shares 12 = .ok (.iload_n 1, 1) := by decide +kernel
theorem dX8_shares_13 : decode cX8_shares 13 = .ok (.bipush 6, 2) := by decide +kernel
theorem dX8_shares_15 : decode cX8_shares 15 = .ok (.imul, 1) := by decide +kernel
theorem dX8_shares_16 : decode cX8_shares 16 = .ok (.iload_n 2, 1) := by decide +kernel
theorem dX8_shares_17 : decode cX8_shares 17 = .ok (.iadd, 1) := by decide +kernel
theorem dX8_shares_18 : decode cX8_shares 18 = .ok (.iaload, 1) := by decide +kernel
theorem dX8_shares_19 : decode cX8_shares 19 = .ok (.iconst (-1), 1) := by decide +kernel
theorem dX8_shares_20 : decode cX8_shares 20 = .ok (.if_icmp .eq 7, 3) := by decide +kernel
theorem dX8_shares_23 : decode cX8_shares 23 = .ok (.iconst 1, 1) := by decide +kernel
theorem dX8_shares_24 : decode cX8_shares 24 = .ok (.goto 4, 3) := by decide +kernel
theorem dX8_shares_27 : decode cX8_shares 27 = .ok (.iconst 0, 1) := by decide +kernel
theorem dX8_shares_28 : decode cX8_shares 28 = .ok (.ireturn, 1) := by decide +kernel
theorem dX8_nextBench_0 : decode cX8_nextBench 0 = .ok (.iconst (-1), 1) := by decide +kernel
theorem dX8_nextBench_1 : decode cX8_nextBench 1 = .ok (.istore_n 2, 1) := by decide +kernel
theorem dX8_nextBench_2 : decode cX8_nextBench 2 = .ok (.iconst 0, 1) := by decide +kernel
theorem dX8_nextBench_3 : decode cX8_nextBench 3 = .ok (.istore_n 3, 1) := by decide +kernel
theorem dX8_nextBench_4 : decode cX8_nextBench 4 = .ok (.iconst 1, 1) := by decide +kernel
theorem dX8_nextBench_5 : decode cX8_nextBench 5 = .ok (.istore 4, 2) := by decide +kernel
theorem dX8_nextBench_7 : decode cX8_nextBench 7 = .ok (.iload 4, 2) := by decide +kernel
theorem dX8_nextBench_9 : decode cX8_nextBench 9 = .ok (.aload_n 1, 1) := by decide +kernel
theorem dX8_nextBench_10 : decode cX8_nextBench 10 = .ok (.getfield 59, 3) := by decide +kernel
theorem dX8_nextBench_13 : decode cX8_nextBench 13 = .ok (.getfield 65, 3) := by decide +kernel
theorem dX8_nextBench_16 : decode cX8_nextBench 16 = .ok (.if_icmp .ge 73, 3) := by decide +kernel
theorem dX8_nextBench_19 : decode cX8_nextBench 19 = .ok (.iconst 0, 1) := by decide +kernel
theorem dX8_nextBench_20 : decode cX8_nextBench 20 = .ok (.istore 5, 2) := by decide +kernel
theorem dX8_nextBench_22 : decode cX8_nextBench 22 = .ok (.iconst 0, 1) := by decide +kernel
theorem dX8_nextBench_23 : decode cX8_nextBench 23 = .ok (.istore 6, 2) := by decide +kernel
theorem dX8_nextBench_25 : decode cX8_nextBench 25 = .ok (.iload 6, 2) := by decide +kernel
theorem dX8_nextBench_27 : decode cX8_nextBench 27 = .ok (.aload_n 1, 1) := by decide +kernel
theorem dX8_nextBench_28 : decode cX8_nextBench 28 = .ok (.getfield 85, 3) := by decide +kernel
theorem dX8_nextBench_31 : decode cX8_nextBench 31 = .ok (.if_icmp .ge 40, 3) := by decide +kernel
theorem dX8_nextBench_34 : decode cX8_nextBench 34 = .ok (.aload_n 0, 1) := by decide +kernel
theorem dX8_nextBench_35 : decode cX8_nextBench 35 = .ok (.getfield 15, 3) := by decide +kernel
theorem dX8_nextBench_38 : decode cX8_nextBench 38 = .ok (.iload 4, 2) := by decide +kernel
theorem dX8_nextBench_40 : decode cX8_nextBench 40 = .ok (.baload, 1) := by decide +kernel
theorem dX8_nextBench_41 : decode cX8_nextBench 41 = .ok (.ifCond .ne 30, 3) := by decide +kernel
theorem dX8_nextBench_44 : decode cX8_nextBench 44 = .ok (.iload 5, 2) := by decide +kernel
theorem dX8_nextBench_46 : decode cX8_nextBench 46 = .ok (.aload_n 0, 1) := by decide +kernel
theorem dX8_nextBench_47 : decode cX8_nextBench 47 = .ok (.iload 6, 2) := by decide +kernel
theorem dX8_nextBench_49 : decode cX8_nextBench 49 = .ok (.iload 4, 2) := by decide +kernel
theorem dX8_nextBench_51 : decode cX8_nextBench 51 = .ok (.invokevirtual 104, 3) := by decide +kernel
theorem dX8_nextBench_54 : decode cX8_nextBench 54 = .ok (.ifCond .eq 7, 3) := by decide +kernel
theorem dX8_nextBench_57 : decode cX8_nextBench 57 = .ok (.iconst 1, 1) := by decide +kernel
theorem dX8_nextBench_58 : decode cX8_nextBench 58 = .ok (.goto 4, 3) := by decide +kernel
theorem dX8_nextBench_61 : decode cX8_nextBench 61 = .ok (.iconst 0, 1) := by decide +kernel
theorem dX8_nextBench_62 : decode cX8_nextBench 62 = .ok (.iadd, 1) := by decide +kernel
theorem dX8_nextBench_63 : decode cX8_nextBench 63 = .ok (.istore 5, 2) := by decide +kernel
theorem dX8_nextBench_65 : decode cX8_nextBench 65 = .ok (.iinc 6 1, 3) := by decide +kernel
theorem dX8_nextBench_68 : decode cX8_nextBench 68 = .ok (.goto (-43), 3) := by decide +kernel
theorem dX8_nextBench_71 : decode cX8_nextBench 71 = .ok (.iload 5, 2) := by decide +kernel
theorem dX8_nextBench_73 : decode cX8_nextBench 73 = .ok (.iload_n 3, 1) := by decide +kernel
theorem dX8_nextBench_74 : decode cX8_nextBench 74 = .ok (.if_icmp .le 9, 3) := by decide +kernel
theorem dX8_nextBench_77 : decode cX8_nextBench 77 = .ok (.iload 5, 2) := by decide +kernel
theorem dX8_nextBench_79 : decode cX8_nextBench 79 = .ok (.istore_n 3, 1) := by decide +kernel
theorem dX8_nextBench_80 : decode cX8_nextBench 80 = .ok (.iload 4, 2) := by decide +kernel
theorem dX8_nextBench_82 : decode cX8_nextBench 82 = .ok (.istore_n 2, 1) := by decide +kernel
theorem dX8_nextBench_83 : decode cX8_nextBench 83 = .ok (.iinc 4 1, 3) := by decide +kernel
theorem dX8_nextBench_86 : decode cX8_nextBench 86 = .ok (.goto (-79), 3) := by decide +kernel
theorem dX8_nextBench_89 : decode cX8_nextBench 89 = .ok (.iload_n 2, 1) := by decide +kernel
theorem dX8_nextBench_90 : decode cX8_nextBench 90 = .ok (.ireturn, 1) := by decide +kernel
theorem dX8_middle_0 : decode cX8_middle 0 = .ok (.iconst 0, 1) := by decide +kernel
theorem dX8_middle_1 : decode cX8_middle 1 = .ok (.istore 5, 2) := by decide +kernel
theorem dX8_middle_3 : decode cX8_middle 3 = .ok (.iconst 0, 1) := by decide +kernel
theorem dX8_middle_4 : decode cX8_middle 4 = .ok (.istore 6, 2) := by decide +kernel
theorem dX8_middle_6 : decode cX8_middle 6 = .ok (.iload 6, 2) := by decide +kernel
theorem dX8_middle_8 : decode cX8_middle 8 = .ok (.iload 4, 2) := by decide +kernel
theorem dX8_middle_10 : decode cX8_middle 10 = .ok (.if_icmp .ge 97, 3) := by decide +kernel
theorem dX8_middle_13 : decode cX8_middle 13 = .ok (.aload_n 0, 1) := by decide +kernel
theorem dX8_middle_14 : decode cX8_middle 14 = .ok (.iload 6, 2) := by decide +kernel
theorem dX8_middle_16 : decode cX8_middle 16 = .ok (.iload_n 1, 1) := by decide +kernel
theorem dX8_middle_17 : decode cX8_middle 17 = .ok (.invokevirtual 104, 3) := by decide +kernel
theorem dX8_middle_20 : decode cX8_middle 20 = .ok (.ifCond .eq 81, 3) := by decide +kernel
theorem dX8_middle_23 : decode cX8_middle 23 = .ok (.aload_n 2, 1) := by decide +kernel
theorem dX8_middle_24 : decode cX8_middle 24 = .ok (.aload_n 0, 1) := by decide +kernel
theorem dX8_middle_25 : decode cX8_middle 25 = .ok (.getfield 41, 3) := by decide +kernel
theorem dX8_middle_28 : decode cX8_middle 28 = .ok (.iload 6, 2) := by decide +kernel
theorem dX8_middle_30 : decode cX8_middle 30 = .ok (.bipush 6, 2) := by decide +kernel
theorem dX8_middle_32 : decode cX8_middle 32 = .ok (.imul, 1) := by decide +kernel
theorem dX8_middle_33 : decode cX8_middle 33 = .ok (.iload_n 1, 1) := by decide +kernel
theorem dX8_middle_34 : decode cX8_middle 34 = .ok (.iadd, 1) := by decide +kernel
theorem dX8_middle_35 : decode cX8_middle 35 = .ok (.iaload, 1) := by decide +kernel
theorem dX8_middle_36 : decode cX8_middle 36 = .ok (.iaload, 1) := by decide +kernel
theorem dX8_middle_37 : decode cX8_middle 37 = .ok (.aload_n 3, 1) := by decide +kernel
theorem dX8_middle_38 : decode cX8_middle 38 = .ok (.iload 6, 2) := by decide +kernel
theorem dX8_middle_40 : decode cX8_middle 40 = .ok (.iaload, 1) := by decide +kernel
theorem dX8_middle_41 : decode cX8_middle 41 = .ok (.isub, 1) := by decide +kernel
theorem dX8_middle_42 : decode cX8_middle 42 = .ok (.istore 7, 2) := by decide +kernel
theorem dX8_middle_44 : decode cX8_middle 44 = .ok (.iload 5, 2) := by decide +kernel
theorem dX8_middle_46 : decode cX8_middle 46 = .ok (.istore 8, 2) := by decide +kernel
theorem dX8_middle_48 : decode cX8_middle 48 = .ok (.iload 8, 2) := by decide +kernel
theorem dX8_middle_50 : decode cX8_middle 50 = .ok (.ifCond .le 39, 3) := by decide +kernel
theorem dX8_middle_53 : decode cX8_middle 53 = .ok (.aload_n 0, 1) := by decide +kernel
theorem dX8_middle_54 : decode cX8_middle 54 = .ok (.getfield 44, 3) := by decide +kernel
theorem dX8_middle_57 : decode cX8_middle 57 = .ok (.iload 8, 2) := by decide +kernel
theorem dX8_middle_59 : decode cX8_middle 59 = .ok (.iconst 1, 1) := by decide +kernel
theorem dX8_middle_60 : decode cX8_middle 60 = .ok (.isub, 1) := by decide +kernel
theorem dX8_middle_61 : decode cX8_middle 61 = .ok (.iaload, 1) := by decide +kernel
theorem dX8_middle_62 : decode cX8_middle 62 = .ok (.iload 7, 2) := by decide +kernel
theorem dX8_middle_64 : decode cX8_middle 64 = .ok (.if_icmp .le 25, 3) := by decide +kernel
theorem dX8_middle_67 : decode cX8_middle 67 = .ok (.aload_n 0, 1) := by decide +kernel
theorem dX8_middle_68 : decode cX8_middle 68 = .ok (.getfield 44, 3) := by decide +kernel
theorem dX8_middle_71 : decode cX8_middle 71 = .ok (.iload 8, 2) := by decide +kernel
theorem dX8_middle_73 : decode cX8_middle 73 = .ok (.aload_n 0, 1) := by decide +kernel
theorem dX8_middle_74 : decode cX8_middle 74 = .ok (.getfield 44, 3) := by decide +kernel
theorem dX8_middle_77 : decode cX8_middle 77 = .ok (.iload 8, 2) := by decide +kernel
theorem dX8_middle_79 : decode cX8_middle 79 = .ok (.iconst 1, 1) := by decide +kernel
theorem dX8_middle_80 : decode cX8_middle 80 = .ok (.isub, 1) := by decide +kernel
theorem dX8_middle_81 : decode cX8_middle 81 = .ok (.iaload, 1) := by decide +kernel
theorem dX8_middle_82 : decode cX8_middle 82 = .ok (.iastore, 1) := by decide +kernel
theorem dX8_middle_83 : decode cX8_middle 83 = .ok (.iinc 8 (-1), 3) := by decide +kernel
theorem dX8_middle_86 : decode cX8_middle 86 = .ok (.goto (-38), 3) := by decide +kernel
theorem dX8_middle_89 : decode cX8_middle 89 = .ok (.aload_n 0, 1) := by decide +kernel
theorem dX8_middle_90 : decode cX8_middle 90 = .ok (.getfield 44, 3) := by decide +kernel
theorem dX8_middle_93 : decode cX8_middle 93 = .ok (.iload 8, 2) := by decide +kernel
theorem dX8_middle_95 : decode cX8_middle 95 = .ok (.iload 7, 2) := by decide +kernel
theorem dX8_middle_97 : decode cX8_middle 97 = .ok (.iastore, 1) := by decide +kernel
theorem dX8_middle_98 : decode cX8_middle 98 = .ok (.iinc 5 1, 3) := by decide +kernel
theorem dX8_middle_101 : decode cX8_middle 101 = .ok (.iinc 6 1, 3) := by decide +kernel
theorem dX8_middle_104 : decode cX8_middle 104 = .ok (.goto (-98), 3) := by decide +kernel
theorem dX8_middle_107 : decode cX8_middle 107 = .ok (.iload 5, 2) := by decide +kernel
theorem dX8_middle_109 : decode cX8_middle 109 = .ok (.ifCond .ne 7, 3) := by decide +kernel
theorem dX8_middle_112 : decode cX8_middle 112 = .ok (.iconst 0, 1) := by decide +kernel
theorem dX8_middle_113 : decode cX8_middle 113 = .ok (.goto 14, 3) := by decide +kernel
theorem dX8_middle_116 : decode cX8_middle 116 = .ok (.aload_n 0, 1) := by decide +kernel
theorem dX8_middle_117 : decode cX8_middle 117 = .ok (.getfield 44, 3) := by decide +kernel
theorem dX8_middle_120 : decode cX8_middle 120 = .ok (.iload 5, 2) := by decide +kernel
theorem dX8_middle_122 : decode cX8_middle 122 = .ok (.iconst 1, 1) := by decide +kernel
theorem dX8_middle_123 : decode cX8_middle 123 = .ok (.isub, 1) := by decide +kernel
theorem dX8_middle_124 : decode cX8_middle 124 = .ok (.iconst 2, 1) := by decide +kernel
theorem dX8_middle_125 : decode cX8_middle 125 = .ok (.idiv, 1) := by decide +kernel
theorem dX8_middle_126 : decode cX8_middle 126 = .ok (.iaload, 1) := by decide +kernel
theorem dX8_middle_127 : decode cX8_middle 127 = .ok (.ireturn, 1) := by decide +kernel
theorem dX8_weigh_0 : decode cX8_weigh 0 = .ok (.iconst 0, 1) := by decide +kernel
theorem dX8_weigh_1 : decode cX8_weigh 1 = .ok (.istore_n 2, 1) := by decide +kernel
theorem dX8_weigh_2 : decode cX8_weigh 2 = .ok (.iload_n 2, 1) := by decide +kernel
theorem dX8_weigh_3 : decode cX8_weigh 3 = .ok (.bipush 60, 2) := by decide +kernel
theorem dX8_weigh_5 : decode cX8_weigh 5 = .ok (.if_icmp .ge 30, 3) := by decide +kernel
theorem dX8_weigh_8 : decode cX8_weigh 8 = .ok (.aload_n 0, 1) := by decide +kernel
theorem dX8_weigh_9 : decode cX8_weigh 9 = .ok (.getfield 26, 3) := by decide +kernel
theorem dX8_weigh_12 : decode cX8_weigh 12 = .ok (.iload_n 2, 1) := by decide +kernel
theorem dX8_weigh_13 : decode cX8_weigh 13 = .ok (.iconst 0, 1) := by decide +kernel
theorem dX8_weigh_14 : decode cX8_weigh 14 = .ok (.iastore, 1) := by decide +kernel
theorem dX8_weigh_15 : decode cX8_weigh 15 = .ok (.aload_n 0, 1) := by decide +kernel
theorem dX8_weigh_16 : decode cX8_weigh 16 = .ok (.getfield 29, 3) := by decide +kernel
theorem dX8_weigh_19 : decode cX8_weigh 19 = .ok (.iload_n 2, 1) := by decide +kernel
theorem dX8_weigh_20 : decode cX8_weigh 20 = .ok (.iconst 0, 1) := by decide +kernel
theorem dX8_weigh_21 : decode cX8_weigh 21 = .ok (.iastore, 1) := by decide +kernel
theorem dX8_weigh_22 : decode cX8_weigh 22 = .ok (.aload_n 0, 1) := by decide +kernel
theorem dX8_weigh_23 : decode cX8_weigh 23 = .ok (.getfield 32, 3) := by decide +kernel
theorem dX8_weigh_26 : decode cX8_weigh 26 = .ok (.iload_n 2, 1) := by decide +kernel
theorem dX8_weigh_27 : decode cX8_weigh 27 = .ok (.iconst 0, 1) := by decide +kernel
theorem dX8_weigh_28 : decode cX8_weigh 28 = .ok (.iastore, 1) := by decide +kernel
theorem dX8_weigh_29 : decode cX8_weigh 29 = .ok (.iinc 2 1, 3) := by decide +kernel
theorem dX8_weigh_32 : decode cX8_weigh 32 = .ok (.goto (-30), 3) := by decide +kernel
theorem dX8_weigh_35 : decode cX8_weigh 35 = .ok (.iconst 0, 1) := by decide +kernel
theorem dX8_weigh_36 : decode cX8_weigh 36 = .ok (.istore_n 2, 1) := by decide +kernel
theorem dX8_weigh_37 : decode cX8_weigh 37 = .ok (.iload_n 2, 1) := by decide +kernel
theorem dX8_weigh_38 : decode cX8_weigh 38 = .ok (.aload_n 1, 1) := by decide +kernel
theorem dX8_weigh_39 : decode cX8_weigh 39 = .ok (.getfield 95, 3) := by decide +kernel
theorem dX8_weigh_42 : decode cX8_weigh 42 = .ok (.if_icmp .ge 83, 3) := by decide +kernel
theorem dX8_weigh_45 : decode cX8_weigh 45 = .ok (.aload_n 0, 1) := by decide +kernel
theorem dX8_weigh_46 : decode cX8_weigh 46 = .ok (.getfield 15, 3) := by decide +kernel
theorem dX8_weigh_49 : decode cX8_weigh 49 = .ok (.aload_n 1, 1) := by decide +kernel
theorem dX8_weigh_50 : decode cX8_weigh 50 = .ok (.getfield 101, 3) := by decide +kernel
theorem dX8_weigh_53 : decode cX8_weigh 53 = .ok (.iload_n 2, 1) := by decide +kernel
theorem dX8_weigh_54 : decode cX8_weigh 54 = .ok (.iaload, 1) := by decide +kernel
theorem dX8_weigh_55 : decode cX8_weigh 55 = .ok (.baload, 1) := by decide +kernel
theorem dX8_weigh_56 : decode cX8_weigh 56 = .ok (.ifCond .eq 63, 3) := by decide +kernel
theorem dX8_weigh_59 : decode cX8_weigh 59 = .ok (.aload_n 0, 1) := by decide +kernel
theorem dX8_weigh_60 : decode cX8_weigh 60 = .ok (.aload_n 1, 1) := by decide +kernel
theorem dX8_weigh_61 : decode cX8_weigh 61 = .ok (.getfield 98, 3) := by decide +kernel
theorem dX8_weigh_64 : decode cX8_weigh 64 = .ok (.iload_n 2, 1) := by decide +kernel
theorem dX8_weigh_65 : decode cX8_weigh 65 = .ok (.iaload, 1) := by decide +kernel
theorem dX8_weigh_66 : decode cX8_weigh 66 = .ok (.aload_n 1, 1) := by decide +kernel
theorem dX8_weigh_67 : decode cX8_weigh 67 = .ok (.getfield 82, 3) := by decide +kernel
theorem dX8_weigh_70 : decode cX8_weigh 70 = .ok (.iload_n 2, 1) := by decide +kernel
theorem dX8_weigh_71 : decode cX8_weigh 71 = .ok (.iaload, 1) := by decide +kernel
theorem dX8_weigh_72 : decode cX8_weigh 72 = .ok (.aload_n 0, 1) := by decide +kernel
theorem dX8_weigh_73 : decode cX8_weigh 73 = .ok (.getfield 19, 3) := by decide +kernel
theorem dX8_weigh_76 : decode cX8_weigh 76 = .ok (.aload_n 1, 1) := by decide +kernel
theorem dX8_weigh_77 : decode cX8_weigh 77 = .ok (.getfield 101, 3) := by decide +kernel
theorem dX8_weigh_80 : decode cX8_weigh 80 = .ok (.iload_n 2, 1) := by decide +kernel
theorem dX8_weigh_81 : decode cX8_weigh 81 = .ok (.iaload, 1) := by decide +kernel
theorem dX8_weigh_82 : decode cX8_weigh 82 = .ok (.iaload, 1) := by decide +kernel
theorem dX8_weigh_83 : decode cX8_weigh 83 = .ok (.isub, 1) := by decide +kernel
theorem dX8_weigh_84 : decode cX8_weigh 84 = .ok (.invokevirtual 108, 3) := by decide +kernel
theorem dX8_weigh_87 : decode cX8_weigh 87 = .ok (.aload_n 0, 1) := by decide +kernel
theorem dX8_weigh_88 : decode cX8_weigh 88 = .ok (.getfield 29, 3) := by decide +kernel
theorem dX8_weigh_91 : decode cX8_weigh 91 = .ok (.aload_n 1, 1) := by decide +kernel
theorem dX8_weigh_92 : decode cX8_weigh 92 = .ok (.getfield 98, 3) := by decide +kernel
theorem dX8_weigh_95 : decode cX8_weigh 95 = .ok (.iload_n 2, 1) := by decide +kernel
theorem dX8_weigh_96 : decode cX8_weigh 96 = .ok (.iaload, 1) := by decide +kernel
theorem dX8_weigh_97 : decode cX8_weigh 97 = .ok (.dup2, 1) := by decide +kernel
theorem dX8_weigh_98 : decode cX8_weigh 98 = .ok (.iaload, 1) := by decide +kernel
theorem dX8_weigh_99 : decode cX8_weigh 99 = .ok (.aload_n 1, 1) := by decide +kernel
theorem dX8_weigh_100 : decode cX8_weigh 100 = .ok (.getfield 92, 3) := by decide +kernel
theorem dX8_weigh_103 : decode cX8_weigh 103 = .ok (.iload_n 2, 1) := by decide +kernel
theorem dX8_weigh_104 : decode cX8_weigh 104 = .ok (.iaload, 1) := by decide +kernel
theorem dX8_weigh_105 : decode cX8_weigh 105 = .ok (.aload_n 0, 1) := by decide +kernel
theorem dX8_weigh_106 : decode cX8_weigh 106 = .ok (.getfield 23, 3) := by decide +kernel
theorem dX8_weigh_109 : decode cX8_weigh 109 = .ok (.aload_n 1, 1) := by decide +kernel
theorem dX8_weigh_110 : decode cX8_weigh 110 = .ok (.getfield 101, 3) := by decide +kernel
theorem dX8_weigh_113 : decode cX8_weigh 113 = .ok (.iload_n 2, 1) := by decide +kernel
theorem dX8_weigh_114 : decode cX8_weigh 114 = .ok (.iaload, 1) := by decide +kernel
theorem dX8_weigh_115 : decode cX8_weigh 115 = .ok (.iaload, 1) := by decide +kernel
theorem dX8_weigh_116 : decode cX8_weigh 116 = .ok (.isub, 1) := by decide +kernel
theorem dX8_weigh_117 : decode cX8_weigh 117 = .ok (.iadd, 1) := by decide +kernel
theorem dX8_weigh_118 : decode cX8_weigh 118 = .ok (.iastore, 1) := by decide +kernel
theorem dX8_weigh_119 : decode cX8_weigh 119 = .ok (.iinc 2 1, 3) := by decide +kernel
theorem dX8_weigh_122 : decode cX8_weigh 122 = .ok (.goto (-85), 3) := by decide +kernel
theorem dX8_weigh_125 : decode cX8_weigh 125 = .ok (.iconst 0, 1) := by decide +kernel
theorem dX8_weigh_126 : decode cX8_weigh 126 = .ok (.istore_n 2, 1) := by decide +kernel
theorem dX8_weigh_127 : decode cX8_weigh 127 = .ok (.iload_n 2, 1) := by decide +kernel
theorem dX8_weigh_128 : decode cX8_weigh 128 = .ok (.aload_n 1, 1) := by decide +kernel
theorem dX8_weigh_129 : decode cX8_weigh 129 = .ok (.getfield 85, 3) := by decide +kernel
theorem dX8_weigh_132 : decode cX8_weigh 132 = .ok (.if_icmp .ge 67, 3) := by decide +kernel
theorem dX8_weigh_135 : decode cX8_weigh 135 = .ok (.aload_n 0, 1) := by decide +kernel
theorem dX8_weigh_136 : decode cX8_weigh 136 = .ok (.iload_n 2, 1) := by decide +kernel
theorem dX8_weigh_137 : decode cX8_weigh 137 = .ok (.invokevirtual 52, 3) := by decide +kernel
theorem dX8_weigh_140 : decode cX8_weigh 140 = .ok (.ifCond .eq 53, 3) := by decide +kernel
theorem dX8_weigh_143 : decode cX8_weigh 143 = .ok (.aload_n 0, 1) := by decide +kernel
theorem dX8_weigh_144 : decode cX8_weigh 144 = .ok (.getfield 26, 3) := by decide +kernel
theorem dX8_weigh_147 : decode cX8_weigh 147 = .ok (.iload_n 2, 1) := by decide +kernel
theorem dX8_weigh_148 : decode cX8_weigh 148 = .ok (.iconst 1, 1) := by decide +kernel
theorem dX8_weigh_149 : decode cX8_weigh 149 = .ok (.aload_n 0, 1) := by decide +kernel
theorem dX8_weigh_150 : decode cX8_weigh 150 = .ok (.getfield 26, 3) := by decide +kernel
theorem dX8_weigh_153 : decode cX8_weigh 153 = .ok (.iload_n 2, 1) := by decide +kernel
theorem dX8_weigh_154 : decode cX8_weigh 154 = .ok (.iaload, 1) := by decide +kernel
theorem dX8_weigh_155 : decode cX8_weigh 155 = .ok (.aload_n 0, 1) := by decide +kernel
theorem dX8_weigh_156 : decode cX8_weigh 156 = .ok (.getfield 32, 3) := by decide +kernel
theorem dX8_weigh_159 : decode cX8_weigh 159 = .ok (.iload_n 2, 1) := by decide +kernel
theorem dX8_weigh_160 : decode cX8_weigh 160 = .ok (.iaload, 1) := by decide +kernel
theorem dX8_weigh_161 : decode cX8_weigh 161 = .ok (.invokestatic 48, 3) := by decide +kernel
theorem dX8_weigh_164 : decode cX8_weigh 164 = .ok (.invokestatic 112, 3) := by decide +kernel
theorem dX8_weigh_167 : decode cX8_weigh 167 = .ok (.iastore, 1) := by decide +kernel
theorem dX8_weigh_168 : decode cX8_weigh 168 = .ok (.aload_n 0, 1) := by decide +kernel
theorem dX8_weigh_169 : decode cX8_weigh 169 = .ok (.getfield 29, 3) := by decide +kernel
theorem dX8_weigh_172 : decode cX8_weigh 172 = .ok (.iload_n 2, 1) := by decide +kernel
theorem dX8_weigh_173 : decode cX8_weigh 173 = .ok (.iconst 1, 1) := by decide +kernel
theorem dX8_weigh_174 : decode cX8_weigh 174 = .ok (.aload_n 0, 1) := by decide +kernel
theorem dX8_weigh_175 : decode cX8_weigh 175 = .ok (.getfield 29, 3) := by decide +kernel
theorem dX8_weigh_178 : decode cX8_weigh 178 = .ok (.iload_n 2, 1) := by decide +kernel
theorem dX8_weigh_179 : decode cX8_weigh 179 = .ok (.iaload, 1) := by decide +kernel
theorem dX8_weigh_180 : decode cX8_weigh 180 = .ok (.aload_n 0, 1) := by decide +kernel
theorem dX8_weigh_181 : decode cX8_weigh 181 = .ok (.getfield 32, 3) := by decide +kernel
theorem dX8_weigh_184 : decode cX8_weigh 184 = .ok (.iload_n 2, 1) := by decide +kernel
theorem dX8_weigh_185 : decode cX8_weigh 185 = .ok (.iaload, 1) := by decide +kernel
theorem dX8_weigh_186 : decode cX8_weigh 186 = .ok (.invokestatic 48, 3) := by decide +kernel
theorem dX8_weigh_189 : decode cX8_weigh 189 = .ok (.invokestatic 112, 3) := by decide +kernel
theorem dX8_weigh_192 : decode cX8_weigh 192 = .ok (.iastore, 1) := by decide +kernel
theorem dX8_weigh_193 : decode cX8_weigh 193 = .ok (.iinc 2 1, 3) := by decide +kernel
theorem dX8_weigh_196 : decode cX8_weigh 196 = .ok (.goto (-69), 3) := by decide +kernel
theorem dX8_weigh_199 : decode cX8_weigh 199 = .ok (.return_, 1) := by decide +kernel
theorem dX8_addTo_0 : decode cX8_addTo 0 = .ok (.aload_n 0, 1) := by decide +kernel
theorem dX8_addTo_1 : decode cX8_addTo 1 = .ok (.getfield 35, 3) := by decide +kernel
theorem dX8_addTo_4 : decode cX8_addTo 4 = .ok (.iload_n 1, 1) := by decide +kernel
theorem dX8_addTo_5 : decode cX8_addTo 5 = .ok (.aload_n 0, 1) := by decide +kernel
theorem dX8_addTo_6 : decode cX8_addTo 6 = .ok (.iload_n 1, 1) := by decide +kernel
theorem dX8_addTo_7 : decode cX8_addTo 7 = .ok (.invokevirtual 52, 3) := by decide +kernel
theorem dX8_addTo_10 : decode cX8_addTo 10 = .ok (.ifCond .eq 16, 3) := by decide +kernel
theorem dX8_addTo_13 : decode cX8_addTo 13 = .ok (.aload_n 0, 1) := by decide +kernel
theorem dX8_addTo_14 : decode cX8_addTo 14 = .ok (.getfield 35, 3) := by decide +kernel
theorem dX8_addTo_17 : decode cX8_addTo 17 = .ok (.iload_n 1, 1) := by decide +kernel
theorem dX8_addTo_18 : decode cX8_addTo 18 = .ok (.iaload, 1) := by decide +kernel
theorem dX8_addTo_19 : decode cX8_addTo 19 = .ok (.iload_n 2, 1) := by decide +kernel
theorem dX8_addTo_20 : decode cX8_addTo 20 = .ok (.invokestatic 117, 3) := by decide +kernel
theorem dX8_addTo_23 : decode cX8_addTo 23 = .ok (.goto 4, 3) := by decide +kernel
theorem dX8_addTo_26 : decode cX8_addTo 26 = .ok (.iload_n 2, 1) := by decide +kernel
theorem dX8_addTo_27 : decode cX8_addTo 27 = .ok (.iastore, 1) := by decide +kernel
theorem dX8_addTo_28 : decode cX8_addTo 28 = .ok (.aload_n 0, 1) := by decide +kernel
theorem dX8_addTo_29 : decode cX8_addTo 29 = .ok (.getfield 38, 3) := by decide +kernel
theorem dX8_addTo_32 : decode cX8_addTo 32 = .ok (.iload_n 1, 1) := by decide +kernel
theorem dX8_addTo_33 : decode cX8_addTo 33 = .ok (.aload_n 0, 1) := by decide +kernel
theorem dX8_addTo_34 : decode cX8_addTo 34 = .ok (.iload_n 1, 1) := by decide +kernel
theorem dX8_addTo_35 : decode cX8_addTo 35 = .ok (.invokevirtual 52, 3) := by decide +kernel
theorem dX8_addTo_38 : decode cX8_addTo 38 = .ok (.ifCond .eq 16, 3) := by decide +kernel
theorem dX8_addTo_41 : decode cX8_addTo 41 = .ok (.aload_n 0, 1) := by decide +kernel
theorem dX8_addTo_42 : decode cX8_addTo 42 = .ok (.getfield 38, 3) := by decide +kernel
theorem dX8_addTo_45 : decode cX8_addTo 45 = .ok (.iload_n 1, 1) := by decide +kernel
theorem dX8_addTo_46 : decode cX8_addTo 46 = .ok (.iaload, 1) := by decide +kernel
theorem dX8_addTo_47 : decode cX8_addTo 47 = .ok (.iload_n 2, 1) := by decide +kernel
theorem dX8_addTo_48 : decode cX8_addTo 48 = .ok (.invokestatic 112, 3) := by decide +kernel
theorem dX8_addTo_51 : decode cX8_addTo 51 = .ok (.goto 4, 3) := by decide +kernel
theorem dX8_addTo_54 : decode cX8_addTo 54 = .ok (.iload_n 2, 1) := by decide +kernel
theorem dX8_addTo_55 : decode cX8_addTo 55 = .ok (.iastore, 1) := by decide +kernel
theorem dX8_addTo_56 : decode cX8_addTo 56 = .ok (.aload_n 0, 1) := by decide +kernel
theorem dX8_addTo_57 : decode cX8_addTo 57 = .ok (.getfield 26, 3) := by decide +kernel
theorem dX8_addTo_60 : decode cX8_addTo 60 = .ok (.iload_n 1, 1) := by decide +kernel
theorem dX8_addTo_61 : decode cX8_addTo 61 = .ok (.dup2, 1) := by decide +kernel
theorem dX8_addTo_62 : decode cX8_addTo 62 = .ok (.iaload, 1) := by decide +kernel
theorem dX8_addTo_63 : decode cX8_addTo 63 = .ok (.iload_n 2, 1) := by decide +kernel
theorem dX8_addTo_64 : decode cX8_addTo 64 = .ok (.iadd, 1) := by decide +kernel
theorem dX8_addTo_65 : decode cX8_addTo 65 = .ok (.iastore, 1) := by decide +kernel
theorem dX8_addTo_66 : decode cX8_addTo 66 = .ok (.aload_n 0, 1) := by decide +kernel
theorem dX8_addTo_67 : decode cX8_addTo 67 = .ok (.getfield 32, 3) := by decide +kernel
theorem dX8_addTo_70 : decode cX8_addTo 70 = .ok (.iload_n 1, 1) := by decide +kernel
theorem dX8_addTo_71 : decode cX8_addTo 71 = .ok (.dup2, 1) := by decide +kernel
theorem dX8_addTo_72 : decode cX8_addTo 72 = .ok (.iaload, 1) := by decide +kernel
theorem dX8_addTo_73 : decode cX8_addTo 73 = .ok (.iconst 1, 1) := by decide +kernel
theorem dX8_addTo_74 : decode cX8_addTo 74 = .ok (.iadd, 1) := by decide +kernel
theorem dX8_addTo_75 : decode cX8_addTo 75 = .ok (.iastore, 1) := by decide +kernel
theorem dX8_addTo_76 : decode cX8_addTo 76 = .ok (.return_, 1) := by decide +kernel
