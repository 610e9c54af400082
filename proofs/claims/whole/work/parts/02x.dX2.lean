theorem dX2_init_0 : decode cX2_init 0 = .ok (.aload_n 0, 1) := by decide +kernel
theorem dX2_init_1 : decode cX2_init 1 = .ok (.invokespecial 5, 3) := by decide +kernel
theorem dX2_init_4 : decode cX2_init 4 = .ok (.aload_n 0, 1) := by decide +kernel
theorem dX2_init_5 : decode cX2_init 5 = .ok (.bipush 12, 2) := by decide +kernel
theorem dX2_init_7 : decode cX2_init 7 = .ok (.newarray .int, 2) := by decide +kernel
theorem dX2_init_9 : decode cX2_init 9 = .ok (.putfield 11, 3) := by decide +kernel
theorem dX2_init_12 : decode cX2_init 12 = .ok (.aload_n 0, 1) := by decide +kernel
theorem dX2_init_13 : decode cX2_init 13 = .ok (.bipush 12, 2) := by decide +kernel
theorem dX2_init_15 : decode cX2_init 15 = .ok (.newarray .int, 2) := by decide +kernel
theorem dX2_init_17 : decode cX2_init 17 = .ok (.putfield 15, 3) := by decide +kernel
theorem dX2_init_20 : decode cX2_init 20 = .ok (.aload_n 0, 1) := by decide +kernel
theorem dX2_init_21 : decode cX2_init 21 = .ok (.bipush 12, 2) := by decide +kernel
theorem dX2_init_23 : decode cX2_init 23 = .ok (.newarray .int, 2) := by decide +kernel
theorem dX2_init_25 : decode cX2_init 25 = .ok (.putfield 18, 3) := by decide +kernel
theorem dX2_init_28 : decode cX2_init 28 = .ok (.aload_n 0, 1) := by decide +kernel
theorem dX2_init_29 : decode cX2_init 29 = .ok (.bipush 12, 2) := by decide +kernel
theorem dX2_init_31 : decode cX2_init 31 = .ok (.newarray .int, 2) := by decide +kernel
theorem dX2_init_33 : decode cX2_init 33 = .ok (.putfield 21, 3) := by decide +kernel
theorem dX2_init_36 : decode cX2_init 36 = .ok (.aload_n 0, 1) := by decide +kernel
theorem dX2_init_37 : decode cX2_init 37 = .ok (.bipush 12, 2) := by decide +kernel
theorem dX2_init_39 : decode cX2_init 39 = .ok (.newarray .int, 2) := by decide +kernel
theorem dX2_init_41 : decode cX2_init 41 = .ok (.putfield 24, 3) := by decide +kernel
theorem dX2_init_44 : decode cX2_init 44 = .ok (.aload_n 0, 1) := by decide +kernel
theorem dX2_init_45 : decode cX2_init 45 = .ok (.bipush 12, 2) := by decide +kernel
theorem dX2_init_47 : decode cX2_init 47 = .ok (.newarray .int, 2) := by decide +kernel
theorem dX2_init_49 : decode cX2_init 49 = .ok (.putfield 27, 3) := by decide +kernel
theorem dX2_init_52 : decode cX2_init 52 = .ok (.aload_n 0, 1) := by decide +kernel
theorem dX2_init_53 : decode cX2_init 53 = .ok (.bipush 12, 2) := by decide +kernel
theorem dX2_init_55 : decode cX2_init 55 = .ok (.newarray .int, 2) := by decide +kernel
theorem dX2_init_57 : decode cX2_init 57 = .ok (.putfield 30, 3) := by decide +kernel
theorem dX2_init_60 : decode cX2_init 60 = .ok (.aload_n 0, 1) := by decide +kernel
theorem dX2_init_61 : decode cX2_init 61 = .ok (.sipush 169, 3) := by decide +kernel
theorem dX2_init_64 : decode cX2_init 64 = .ok (.newarray .int, 2) := by decide +kernel
theorem dX2_init_66 : decode cX2_init 66 = .ok (.putfield 33, 3) := by decide +kernel
theorem dX2_init_69 : decode cX2_init 69 = .ok (.aload_n 0, 1) := by decide +kernel
theorem dX2_init_70 : decode cX2_init 70 = .ok (.sipush 169, 3) := by decide +kernel
theorem dX2_init_73 : decode cX2_init 73 = .ok (.newarray .int, 2) := by decide +kernel
theorem dX2_init_75 : decode cX2_init 75 = .ok (.putfield 36, 3) := by decide +kernel
theorem dX2_init_78 : decode cX2_init 78 = .ok (.aload_n 0, 1) := by decide +kernel
theorem dX2_init_79 : decode cX2_init 79 = .ok (.sipush 169, 3) := by decide +kernel
theorem dX2_init_82 : decode cX2_init 82 = .ok (.newarray .int, 2) := by decide +kernel
theorem dX2_init_84 : decode cX2_init 84 = .ok (.putfield 39, 3) := by decide +kernel
theorem dX2_init_87 : decode cX2_init 87 = .ok (.aload_n 0, 1) := by decide +kernel
theorem dX2_init_88 : decode cX2_init 88 = .ok (.sipush 169, 3) := by decide +kernel
theorem dX2_init_91 : decode cX2_init 91 = .ok (.newarray .int, 2) := by decide +kernel
theorem dX2_init_93 : decode cX2_init 93 = .ok (.putfield 42, 3) := by decide +kernel
theorem dX2_init_96 : decode cX2_init 96 = .ok (.aload_n 0, 1) := by decide +kernel
theorem dX2_init_97 : decode cX2_init 97 = .ok (.bipush 12, 2) := by decide +kernel
theorem dX2_init_99 : decode cX2_init 99 = .ok (.newarray .int, 2) := by decide +kernel
theorem dX2_init_101 : decode cX2_init 101 = .ok (.putfield 45, 3) := by decide +kernel
theorem dX2_init_104 : decode cX2_init 104 = .ok (.return_, 1) := by decide +kernel
theorem dX2_start_0 : decode cX2_start 0 = .ok (.aload_n 0, 1) := by decide +kernel
theorem dX2_start_1 : decode cX2_start 1 = .ok (.iload_n 1, 1) := by decide +kernel
theorem dX2_start_2 : decode cX2_start 2 = .ok (.putfield 48, 3) := by decide +kernel
theorem dX2_start_5 : decode cX2_start 5 = .ok (.aload_n 0, 1) := by decide +kernel
theorem dX2_start_6 : decode cX2_start 6 = .ok (.iload_n 2, 1) := by decide +kernel
theorem dX2_start_7 : decode cX2_start 7 = .ok (.putfield 52, 3) := by decide +kernel
theorem dX2_start_10 : decode cX2_start 10 = .ok (.aload_n 0, 1) := by decide +kernel
theorem dX2_start_11 : decode cX2_start 11 = .ok (.iload_n 1, 1) := by decide +kernel
theorem dX2_start_12 : decode cX2_start 12 = .ok (.iload_n 2, 1) := by decide +kernel
theorem dX2_start_13 : decode cX2_start 13 = .ok (.invokestatic 55, 3) := by decide +kernel
theorem dX2_start_16 : decode cX2_start 16 = .ok (.putfield 59, 3) := by decide +kernel
theorem dX2_start_19 : decode cX2_start 19 = .ok (.aload_n 0, 1) := by decide +kernel
theorem dX2_start_20 : decode cX2_start 20 = .ok (.iconst (-1), 1) := by decide +kernel
theorem dX2_start_21 : decode cX2_start 21 = .ok (.putfield 62, 3) := by decide +kernel
theorem dX2_start_24 : decode cX2_start 24 = .ok (.aload_n 0, 1) := by decide +kernel
theorem dX2_start_25 : decode cX2_start 25 = .ok (.iconst 0, 1) := by decide +kernel
theorem dX2_start_26 : decode cX2_start 26 = .ok (.putfield 65, 3) := by decide +kernel
theorem dX2_start_29 : decode cX2_start 29 = .ok (.aload_n 0, 1) := by decide +kernel
theorem dX2_start_30 : decode cX2_start 30 = .ok (.iconst 0, 1) := by decide +kernel
theorem dX2_start_31 : decode cX2_start 31 = .ok (.putfield 68, 3) := by decide +kernel
theorem dX2_start_34 : decode cX2_start 34 = .ok (.iconst 0, 1) := by decide +kernel
theorem dX2_start_35 : decode cX2_start 35 = .ok (.istore_n 3, 1) := by decide +kernel
theorem dX2_start_36 : decode cX2_start 36 = .ok (.iload_n 3, 1) := by decide +kernel
theorem dX2_start_37 : decode cX2_start 37 = .ok (.aload_n 0, 1) := by decide +kernel
theorem dX2_start_38 : decode cX2_start 38 = .ok (.getfield 52, 3) := by decide +kernel
theorem dX2_start_41 : decode cX2_start 41 = .ok (.if_icmp .ge 30, 3) := by decide +kernel
theorem dX2_start_44 : decode cX2_start 44 = .ok (.aload_n 0, 1) := by decide +kernel
theorem dX2_start_45 : decode cX2_start 45 = .ok (.getfield 24, 3) := by decide +kernel
theorem dX2_start_48 : decode cX2_start 48 = .ok (.iload_n 3, 1) := by decide +kernel
theorem dX2_start_49 : decode cX2_start 49 = .ok (.iconst 0, 1) := by decide +kernel
theorem dX2_start_50 : decode cX2_start 50 = .ok (.iastore, 1) := by decide +kernel
theorem dX2_start_51 : decode cX2_start 51 = .ok (.aload_n 0, 1) := by decide +kernel
theorem dX2_start_52 : decode cX2_start 52 = .ok (.getfield 27, 3) := by decide +kernel
theorem dX2_start_55 : decode cX2_start 55 = .ok (.iload_n 3, 1) := by decide +kernel
theorem dX2_start_56 : decode cX2_start 56 = .ok (.iconst 0, 1) := by decide +kernel
theorem dX2_start_57 : decode cX2_start 57 = .ok (.iastore, 1) := by decide +kernel
theorem dX2_start_58 : decode cX2_start 58 = .ok (.aload_n 0, 1) := by decide +kernel
theorem dX2_start_59 : decode cX2_start 59 = .ok (.getfield 30, 3) := by decide +kernel
theorem dX2_start_62 : decode cX2_start 62 = .ok (.iload_n 3, 1) := by decide +kernel
theorem dX2_start_63 : decode cX2_start 63 = .ok (.iconst 0, 1) := by decide +kernel
theorem dX2_start_64 : decode cX2_start 64 = .ok (.iastore, 1) := by decide +kernel
theorem dX2_start_65 : decode cX2_start 65 = .ok (.iinc 3 1, 3) := by decide +kernel
theorem dX2_start_68 : decode cX2_start 68 = .ok (.goto (-32), 3) := by decide +kernel
theorem dX2_start_71 : decode cX2_start 71 = .ok (.return_, 1) := by decide +kernel
theorem dX2_tell_0 : decode cX2_tell 0 = .ok (.aload_n 0, 1) := by decide +kernel
theorem dX2_tell_1 : decode cX2_tell 1 = .ok (.getfield 15, 3) := by decide +kernel
theorem dX2_tell_4 : decode cX2_tell 4 = .ok (.iload_n 1, 1) := by decide +kernel
theorem dX2_tell_5 : decode cX2_tell 5 = .ok (.iload_n 2, 1) := by decide +kernel
theorem dX2_tell_6 : decode cX2_tell 6 = .ok (.iastore, 1) := by decide +kernel
theorem dX2_tell_7 : decode cX2_tell 7 = .ok (.aload_n 0, 1) := by decide +kernel
theorem dX2_tell_8 : decode cX2_tell 8 = .ok (.getfield 18, 3) := by decide +kernel
theorem dX2_tell_11 : decode cX2_tell 11 = .ok (.iload_n 1, 1) := by decide +kernel
theorem dX2_tell_12 : decode cX2_tell 12 = .ok (.iload_n 3, 1) := by decide +kernel
theorem dX2_tell_13 : decode cX2_tell 13 = .ok (.iastore, 1) := by decide +kernel
theorem dX2_tell_14 : decode cX2_tell 14 = .ok (.return_, 1) := by decide +kernel
theorem dX2_find_0 : decode cX2_find 0 = .ok (.aload_n 0, 1) := by decide +kernel
theorem dX2_find_1 : decode cX2_find 1 = .ok (.aload_n 0, 1) := by decide +kernel
theorem dX2_find_2 : decode cX2_find 2 = .ok (.getfield 15, 3) := by decide +kernel
theorem dX2_find_5 : decode cX2_find 5 = .ok (.aload_n 0, 1) := by decide +kernel
theorem dX2_find_6 : decode cX2_find 6 = .ok (.getfield 33, 3) := by decide +kernel
theorem dX2_find_9 : decode cX2_find 9 = .ok (.aload_n 0, 1) := by decide +kernel
theorem dX2_find_10 : decode cX2_find 10 = .ok (.getfield 36, 3) := by decide +kernel
theorem dX2_find_13 : decode cX2_find 13 = .ok (.invokevirtual 71, 3) := by decide +kernel
theorem dX2_find_16 : decode cX2_find 16 = .ok (.aload_n 0, 1) := by decide +kernel
theorem dX2_find_17 : decode cX2_find 17 = .ok (.aload_n 0, 1) := by decide +kernel
theorem dX2_find_18 : decode cX2_find 18 = .ok (.getfield 18, 3) := by decide +kernel
theorem dX2_find_21 : decode cX2_find 21 = .ok (.aload_n 0, 1) := by decide +kernel
theorem dX2_find_22 : decode cX2_find 22 = .ok (.getfield 39, 3) := by decide +kernel
theorem dX2_find_25 : decode cX2_find 25 = .ok (.aload_n 0, 1) := by decide +kernel
theorem dX2_find_26 : decode cX2_find 26 = .ok (.getfield 42, 3) := by decide +kernel
theorem dX2_find_29 : decode cX2_find 29 = .ok (.invokevirtual 71, 3) := by decide +kernel
theorem dX2_find_32 : decode cX2_find 32 = .ok (.aload_n 0, 1) := by decide +kernel
theorem dX2_find_33 : decode cX2_find 33 = .ok (.iconst 0, 1) := by decide +kernel
theorem dX2_find_34 : decode cX2_find 34 = .ok (.iconst 0, 1) := by decide +kernel
theorem dX2_find_35 : decode cX2_find 35 = .ok (.invokevirtual 75, 3) := by decide +kernel
theorem dX2_find_38 : decode cX2_find 38 = .ok (.return_, 1) := by decide +kernel
theorem dX2_addUp_0 : decode cX2_addUp 0 = .ok (.aload_n 0, 1) := by decide +kernel
theorem dX2_addUp_1 : decode cX2_addUp 1 = .ok (.getfield 48, 3) := by decide +kernel
theorem dX2_addUp_4 : decode cX2_addUp 4 = .ok (.iconst 1, 1) := by decide +kernel
theorem dX2_addUp_5 : decode cX2_addUp 5 = .ok (.isub, 1) := by decide +kernel
theorem dX2_addUp_6 : decode cX2_addUp 6 = .ok (.istore 4, 2) := by decide +kernel
theorem dX2_addUp_8 : decode cX2_addUp 8 = .ok (.iload 4, 2) := by decide +kernel
theorem dX2_addUp_10 : decode cX2_addUp 10 = .ok (.ifCond .lt 154, 3) := by decide +kernel
theorem dX2_addUp_13 : decode cX2_addUp 13 = .ok (.aload_n 0, 1) := by decide +kernel
theorem dX2_addUp_14 : decode cX2_addUp 14 = .ok (.getfield 48, 3) := by decide +kernel
theorem dX2_addUp_17 : decode cX2_addUp 17 = .ok (.iload 4, 2) := by decide +kernel
theorem dX2_addUp_19 : decode cX2_addUp 19 = .ok (.isub, 1) := by decide +kernel
theorem dX2_addUp_20 : decode cX2_addUp 20 = .ok (.istore 5, 2) := by decide +kernel
theorem dX2_addUp_22 : decode cX2_addUp 22 = .ok (.iload 5, 2) := by decide +kernel
theorem dX2_addUp_24 : decode cX2_addUp 24 = .ok (.iconst 1, 1) := by decide +kernel
theorem dX2_addUp_25 : decode cX2_addUp 25 = .ok (.isub, 1) := by decide +kernel
theorem dX2_addUp_26 : decode cX2_addUp 26 = .ok (.istore 6, 2) := by decide +kernel
theorem dX2_addUp_28 : decode cX2_addUp 28 = .ok (.iload 6, 2) := by decide +kernel
theorem dX2_addUp_30 : decode cX2_addUp 30 = .ok (.ifCond .le 41, 3) := by decide +kernel
theorem dX2_addUp_33 : decode cX2_addUp 33 = .ok (.aload_n 0, 1) := by decide +kernel
theorem dX2_addUp_34 : decode cX2_addUp 34 = .ok (.getfield 45, 3) := by decide +kernel
theorem dX2_addUp_37 : decode cX2_addUp 37 = .ok (.iload 6, 2) := by decide +kernel
theorem dX2_addUp_39 : decode cX2_addUp 39 = .ok (.iconst 1, 1) := by decide +kernel
theorem dX2_addUp_40 : decode cX2_addUp 40 = .ok (.isub, 1) := by decide +kernel
theorem dX2_addUp_41 : decode cX2_addUp 41 = .ok (.iaload, 1) := by decide +kernel
theorem dX2_addUp_42 : decode cX2_addUp 42 = .ok (.aload_n 1, 1) := by decide +kernel
theorem dX2_addUp_43 : decode cX2_addUp 43 = .ok (.iload 4, 2) := by decide +kernel
theorem dX2_addUp_45 : decode cX2_addUp 45 = .ok (.iaload, 1) := by decide +kernel
theorem dX2_addUp_46 : decode cX2_addUp 46 = .ok (.if_icmp .le 25, 3) := by decide +kernel
theorem dX2_addUp_49 : decode cX2_addUp 49 = .ok (.aload_n 0, 1) := by decide +kernel
theorem dX2_addUp_50 : decode cX2_addUp 50 = .ok (.getfield 45, 3) := by decide +kernel
theorem dX2_addUp_53 : decode cX2_addUp 53 = .ok (.iload 6, 2) := by decide +kernel
theorem dX2_addUp_55 : decode cX2_addUp 55 = .ok (.aload_n 0, 1) := by decide +kernel
theorem dX2_addUp_56 : decode cX2_addUp 56 = .ok (.getfield 45, 3) := by decide +kernel
theorem dX2_addUp_59 : decode cX2_addUp 59 = .ok (.iload 6, 2) := by decide +kernel
theorem dX2_addUp_61 : decode cX2_addUp 61 = .ok (.iconst 1, 1) := by decide +kernel
theorem dX2_addUp_62 : decode cX2_addUp 62 = .ok (.isub, 1) := by decide +kernel
theorem dX2_addUp_63 : decode cX2_addUp 63 = .ok (.iaload, 1) := by decide +kernel
theorem dX2_addUp_64 : decode cX2_addUp 64 = .ok (.iastore, 1) := by decide +kernel
theorem dX2_addUp_65 : decode cX2_addUp 65 = .ok (.iinc 6 (-1), 3) := by decide +kernel
theorem dX2_addUp_68 : decode cX2_addUp 68 = .ok (.goto (-40), 3) := by decide +kernel
theorem dX2_addUp_71 : decode cX2_addUp 71 = .ok (.aload_n 0, 1) := by decide +kernel
theorem dX2_addUp_72 : decode cX2_addUp 72 = .ok (.getfield 45, 3) := by decide +kernel
theorem dX2_addUp_75 : decode cX2_addUp 75 = .ok (.iload 6, 2) := by decide +kernel
theorem dX2_addUp_77 : decode cX2_addUp 77 = .ok (.aload_n 1, 1) := by decide +kernel
theorem dX2_addUp_78 : decode cX2_addUp 78 = .ok (.iload 4, 2) := by decide +kernel
theorem dX2_addUp_80 : decode cX2_addUp 80 = .ok (.iaload, 1) := by decide +kernel
theorem dX2_addUp_81 : decode cX2_addUp 81 = .ok (.iastore, 1) := by decide +kernel
theorem dX2_addUp_82 : decode cX2_addUp 82 = .ok (.iload 4, 2) := by decide +kernel
theorem dX2_addUp_84 : decode cX2_addUp 84 = .ok (.bipush 13, 2) := by decide +kernel
theorem dX2_addUp_86 : decode cX2_addUp 86 = .ok (.imul, 1) := by decide +kernel
theorem dX2_addUp_87 : decode cX2_addUp 87 = .ok (.istore 7, 2) := by decide +kernel
theorem dX2_addUp_89 : decode cX2_addUp 89 = .ok (.iconst 1, 1) := by decide +kernel
theorem dX2_addUp_90 : decode cX2_addUp 90 = .ok (.istore 8, 2) := by decide +kernel
theorem dX2_addUp_92 : decode cX2_addUp 92 = .ok (.iload 8, 2) := by decide +kernel
theorem dX2_addUp_94 : decode cX2_addUp 94 = .ok (.iload 5, 2) := by decide +kernel
theorem dX2_addUp_96 : decode cX2_addUp 96 = .ok (.if_icmp .gt 62, 3) := by decide +kernel
theorem dX2_addUp_99 : decode cX2_addUp 99 = .ok (.aload_n 2, 1) := by decide +kernel
theorem dX2_addUp_100 : decode cX2_addUp 100 = .ok (.iload 7, 2) := by decide +kernel
theorem dX2_addUp_102 : decode cX2_addUp 102 = .ok (.iload 8, 2) := by decide +kernel
theorem dX2_addUp_104 : decode cX2_addUp 104 = .ok (.iadd, 1) := by decide +kernel
theorem dX2_addUp_105 : decode cX2_addUp 105 = .ok (.aload_n 2, 1) := by decide +kernel
theorem dX2_addUp_106 : decode cX2_addUp 106 = .ok (.iload 7, 2) := by decide +kernel
theorem dX2_addUp_108 : decode cX2_addUp 108 = .ok (.iload 8, 2) := by decide +kernel
theorem dX2_addUp_110 : decode cX2_addUp 110 = .ok (.iadd, 1) := by decide +kernel
theorem dX2_addUp_111 : decode cX2_addUp 111 = .ok (.iconst 1, 1) := by decide +kernel
theorem dX2_addUp_112 : decode cX2_addUp 112 = .ok (.isub, 1) := by decide +kernel
theorem dX2_addUp_113 : decode cX2_addUp 113 = .ok (.iaload, 1) := by decide +kernel
theorem dX2_addUp_114 : decode cX2_addUp 114 = .ok (.aload_n 0, 1) := by decide +kernel
theorem dX2_addUp_115 : decode cX2_addUp 115 = .ok (.getfield 45, 3) := by decide +kernel
theorem dX2_addUp_118 : decode cX2_addUp 118 = .ok (.iload 8, 2) := by decide +kernel
theorem dX2_addUp_120 : decode cX2_addUp 120 = .ok (.iconst 1, 1) := by decide +kernel
theorem dX2_addUp_121 : decode cX2_addUp 121 = .ok (.isub, 1) := by decide +kernel
theorem dX2_addUp_122 : decode cX2_addUp 122 = .ok (.iaload, 1) := by decide +kernel
theorem dX2_addUp_123 : decode cX2_addUp 123 = .ok (.iadd, 1) := by decide +kernel
theorem dX2_addUp_124 : decode cX2_addUp 124 = .ok (.iastore, 1) := by decide +kernel
theorem dX2_addUp_125 : decode cX2_addUp 125 = .ok (.aload_n 3, 1) := by decide +kernel
theorem dX2_addUp_126 : decode cX2_addUp 126 = .ok (.iload 7, 2) := by decide +kernel
theorem dX2_addUp_128 : decode cX2_addUp 128 = .ok (.iload 8, 2) := by decide +kernel
theorem dX2_addUp_130 : decode cX2_addUp 130 = .ok (.iadd, 1) := by decide +kernel
theorem dX2_addUp_131 : decode cX2_addUp 131 = .ok (.aload_n 3, 1) := by decide +kernel
theorem dX2_addUp_132 : decode cX2_addUp 132 = .ok (.iload 7, 2) := by decide +kernel
theorem dX2_addUp_134 : decode cX2_addUp 134 = .ok (.iload 8, 2) := by decide +kernel
theorem dX2_addUp_136 : decode cX2_addUp 136 = .ok (.iadd, 1) := by decide +kernel
theorem dX2_addUp_137 : decode cX2_addUp 137 = .ok (.iconst 1, 1) := by decide +kernel
theorem dX2_addUp_138 : decode cX2_addUp 138 = .ok (.isub, 1) := by decide +kernel
theorem dX2_addUp_139 : decode cX2_addUp 139 = .ok (.iaload, 1) := by decide +kernel
theorem dX2_addUp_140 : decode cX2_addUp 140 = .ok (.aload_n 0, 1) := by decide +kernel
theorem dX2_addUp_141 : decode cX2_addUp 141 = .ok (.getfield 45, 3) := by decide +kernel
theorem dX2_addUp_144 : decode cX2_addUp 144 = .ok (.iload 5, 2) := by decide +kernel
theorem dX2_addUp_146 : decode cX2_addUp 146 = .ok (.iload 8, 2) := by decide +kernel
theorem dX2_addUp_148 : decode cX2_addUp 148 = .ok (.isub, 1) := by decide +kernel
theorem dX2_addUp_149 : decode cX2_addUp 149 = .ok (.iaload, 1) := by decide +kernel
theorem dX2_addUp_150 : decode cX2_addUp 150 = .ok (.iadd, 1) := by decide +kernel
theorem dX2_addUp_151 : decode cX2_addUp 151 = .ok (.iastore, 1) := by decide +kernel
theorem dX2_addUp_152 : decode cX2_addUp 152 = .ok (.iinc 8 1, 3) := by decide +kernel
theorem dX2_addUp_155 : decode cX2_addUp 155 = .ok (.goto (-63), 3) := by decide +kernel
theorem dX2_addUp_158 : decode cX2_addUp 158 = .ok (.iinc 4 (-1), 3) := by decide +kernel
theorem dX2_addUp_161 : decode cX2_addUp 161 = .ok (.goto (-153), 3) := by decide +kernel
theorem dX2_addUp_164 : decode cX2_addUp 164 = .ok (.return_, 1) := by decide +kernel
theorem dX2_place_0 : decode cX2_place 0 = .ok (.iload_n 1, 1) := by decide +kernel
theorem dX2_place_1 : decode cX2_place 1 = .ok (.aload_n 0, 1) := by decide +kernel
theorem dX2_place_2 : decode cX2_place 2 = .ok (.getfield 48, 3) := by decide +kernel
theorem dX2_place_5 : decode cX2_place 5 = .ok (.if_icmp .lt 8, 3) := by decide +kernel
theorem dX2_place_8 : decode cX2_place 8 = .ok (.aload_n 0, 1) := by decide +kernel
theorem dX2_place_9 : decode cX2_place 9 = .ok (.invokevirtual 79, 3) := by decide +kernel
theorem dX2_place_12 : decode cX2_place 12 = .ok (.return_, 1) := by decide +kernel
theorem dX2_place_13 : decode cX2_place 13 = .ok (.iconst 0, 1) := by decide +kernel
theorem dX2_place_14 : decode cX2_place 14 = .ok (.istore_n 3, 1) := by decide +kernel
theorem dX2_place_15 : decode cX2_place 15 = .ok (.iload_n 3, 1) := by decide +kernel
theorem dX2_place_16 : decode cX2_place 16 = .ok (.iload_n 2, 1) := by decide +kernel
theorem dX2_place_17 : decode cX2_place 17 = .ok (.if_icmp .gt 76, 3) := by decide +kernel
theorem dX2_place_20 : decode cX2_place 20 = .ok (.iload_n 3, 1) := by decide +kernel
theorem dX2_place_21 : decode cX2_place 21 = .ok (.aload_n 0, 1) := by decide +kernel
theorem dX2_place_22 : decode cX2_place 22 = .ok (.getfield 52, 3) := by decide +kernel
theorem dX2_place_25 : decode cX2_place 25 = .ok (.if_icmp .ge 68, 3) := by decide +kernel
theorem dX2_place_28 : decode cX2_place 28 = .ok (.aload_n 0, 1) := by decide +kernel
theorem dX2_place_29 : decode cX2_place 29 = .ok (.getfield 30, 3) := by decide +kernel
theorem dX2_place_32 : decode cX2_place 32 = .ok (.iload_n 3, 1) := by decide +kernel
theorem dX2_place_33 : decode cX2_place 33 = .ok (.iaload, 1) := by decide +kernel
theorem dX2_place_34 : decode cX2_place 34 = .ok (.aload_n 0, 1) := by decide +kernel
theorem dX2_place_35 : decode cX2_place 35 = .ok (.getfield 59, 3) := by decide +kernel
theorem dX2_place_38 : decode cX2_place 38 = .ok (.if_icmp .ge 49, 3) := by decide +kernel
theorem dX2_place_41 : decode cX2_place 41 = .ok (.aload_n 0, 1) := by decide +kernel
theorem dX2_place_42 : decode cX2_place 42 = .ok (.iload_n 1, 1) := by decide +kernel
theorem dX2_place_43 : decode cX2_place 43 = .ok (.iload_n 3, 1) := by decide +kernel
theorem dX2_place_44 : decode cX2_place 44 = .ok (.iconst 1, 1) := by decide +kernel
theorem dX2_place_45 : decode cX2_place 45 = .ok (.invokevirtual 82, 3) := by decide +kernel
theorem dX2_place_48 : decode cX2_place 48 = .ok (.aload_n 0, 1) := by decide +kernel
theorem dX2_place_49 : decode cX2_place 49 = .ok (.iload_n 1, 1) := by decide +kernel
theorem dX2_place_50 : decode cX2_place 50 = .ok (.iconst 1, 1) := by decide +kernel
theorem dX2_place_51 : decode cX2_place 51 = .ok (.iadd, 1) := by decide +kernel
theorem dX2_place_52 : decode cX2_place 52 = .ok (.bipush 13, 2) := by decide +kernel
theorem dX2_place_54 : decode cX2_place 54 = .ok (.imul, 1) := by decide +kernel
theorem dX2_place_55 : decode cX2_place 55 = .ok (.invokevirtual 86, 3) := by decide +kernel
theorem dX2_place_58 : decode cX2_place 58 = .ok (.ifCond .eq 22, 3) := by decide +kernel
theorem dX2_place_61 : decode cX2_place 61 = .ok (.aload_n 0, 1) := by decide +kernel
theorem dX2_place_62 : decode cX2_place 62 = .ok (.iload_n 1, 1) := by decide +kernel
theorem dX2_place_63 : decode cX2_place 63 = .ok (.iconst 1, 1) := by decide +kernel
theorem dX2_place_64 : decode cX2_place 64 = .ok (.iadd, 1) := by decide +kernel
theorem dX2_place_65 : decode cX2_place 65 = .ok (.iload_n 3, 1) := by decide +kernel
theorem dX2_place_66 : decode cX2_place 66 = .ok (.iload_n 2, 1) := by decide +kernel
theorem dX2_place_67 : decode cX2_place 67 = .ok (.if_icmp .ne 9, 3) := by decide +kernel
theorem dX2_place_70 : decode cX2_place 70 = .ok (.iload_n 2, 1) := by decide +kernel
theorem dX2_place_71 : decode cX2_place 71 = .ok (.iconst 1, 1) := by decide +kernel
theorem dX2_place_72 : decode cX2_place 72 = .ok (.iadd, 1) := by decide +kernel
theorem dX2_place_73 : decode cX2_place 73 = .ok (.goto 4, 3) := by decide +kernel
theorem dX2_place_76 : decode cX2_place 76 = .ok (.iload_n 2, 1) := by decide +kernel
theorem dX2_place_77 : decode cX2_place 77 = .ok (.invokevirtual 75, 3) := by decide +kernel
theorem dX2_place_80 : decode cX2_place 80 = .ok (.aload_n 0, 1) := by decide +kernel
theorem dX2_place_81 : decode cX2_place 81 = .ok (.iload_n 1, 1) := by decide +kernel
theorem dX2_place_82 : decode cX2_place 82 = .ok (.iload_n 3, 1) := by decide +kernel
theorem dX2_place_83 : decode cX2_place 83 = .ok (.iconst (-1), 1) := by decide +kernel
theorem dX2_place_84 : decode cX2_place 84 = .ok (.invokevirtual 82, 3) := by decide +kernel
theorem dX2_place_87 : decode cX2_place 87 = .ok (.iinc 3 1, 3) := by decide +kernel
theorem dX2_place_90 : decode cX2_place 90 = .ok (.goto (-75), 3) := by decide +kernel
theorem dX2_place_93 : decode cX2_place 93 = .ok (.return_, 1) := by decide +kernel
theorem dX2_put_0 : decode cX2_put 0 = .ok (.aload_n 0, 1) := by decide +kernel
theorem dX2_put_1 : decode cX2_put 1 = .ok (.getfield 21, 3) := by decide +kernel
theorem dX2_put_4 : decode cX2_put 4 = .ok (.iload_n 1, 1) := by decide +kernel
theorem dX2_put_5 : decode cX2_put 5 = .ok (.iload_n 2, 1) := by decide +kernel
theorem dX2_put_6 : decode cX2_put 6 = .ok (.iastore, 1) := by decide +kernel
theorem dX2_put_7 : decode cX2_put 7 = .ok (.aload_n 0, 1) := by decide +kernel
theorem dX2_put_8 : decode cX2_put 8 = .ok (.getfield 24, 3) := by decide +kernel
theorem dX2_put_11 : decode cX2_put 11 = .ok (.iload_n 2, 1) := by decide +kernel
theorem dX2_put_12 : decode cX2_put 12 = .ok (.dup2, 1) := by decide +kernel
theorem dX2_put_13 : decode cX2_put 13 = .ok (.iaload, 1) := by decide +kernel
theorem dX2_put_14 : decode cX2_put 14 = .ok (.iload_n 3, 1) := by decide +kernel
theorem dX2_put_15 : decode cX2_put 15 = .ok (.aload_n 0, 1) := by decide +kernel
theorem dX2_put_16 : decode cX2_put 16 = .ok (.getfield 15, 3) := by decide +kernel
theorem dX2_put_19 : decode cX2_put 19 = .ok (.iload_n 1, 1) := by decide +kernel
theorem dX2_put_20 : decode cX2_put 20 = .ok (.iaload, 1) := by decide +kernel
theorem dX2_put_21 : decode cX2_put 21 = .ok (.imul, 1) := by decide +kernel
theorem dX2_put_22 : decode cX2_put 22 = .ok (.iadd, 1) := by decide +kernel
theorem dX2_put_23 : decode cX2_put 23 = .ok (.iastore, 1) := by decide +kernel
theorem dX2_put_24 : decode cX2_put 24 = .ok (.aload_n 0, 1) := by decide +kernel
theorem dX2_put_25 : decode cX2_put 25 = .ok (.getfield 27, 3) := by decide +kernel
theorem dX2_put_28 : decode cX2_put 28 = .ok (.iload_n 2, 1) := by decide +kernel
theorem dX2_put_29 : decode cX2_put 29 = .ok (.dup2, 1) := by decide +kernel
theorem dX2_put_30 : decode cX2_put 30 = .ok (.iaload, 1) := by decide +kernel
theorem dX2_put_31 : decode cX2_put 31 = .ok (.iload_n 3, 1) := by decide +kernel
theorem dX2_put_32 : decode cX2_put 32 = .ok (.aload_n 0, 1) := by decide +kernel
theorem dX2_put_33 : decode cX2_put 33 = .ok (.getfield 18, 3) := by decide +kernel
theorem dX2_put_36 : decode cX2_put 36 = .ok (.iload_n 1, 1) := by decide +kernel
theorem dX2_put_37 : decode cX2_put 37 = .ok (.iaload, 1) := by decide +kernel
theorem dX2_put_38 : decode cX2_put 38 = .ok (.imul, 1) := by decide +kernel
theorem dX2_put_39 : decode cX2_put 39 = .ok (.iadd, 1) := by decide +kernel
theorem dX2_put_40 : decode cX2_put 40 = .ok (.iastore, 1) := by decide +kernel
theorem dX2_put_41 : decode cX2_put 41 = .ok (.aload_n 0, 1) := by decide +kernel
theorem dX2_put_42 : decode cX2_put 42 = .ok (.getfield 30, 3) := by decide +kernel
theorem dX2_put_45 : decode cX2_put 45 = .ok (.iload_n 2, 1) := by decide +kernel
theorem dX2_put_46 : decode cX2_put 46 = .ok (.dup2, 1) := by decide +kernel
theorem dX2_put_47 : decode cX2_put 47 = .ok (.iaload, 1) := by decide +kernel
theorem dX2_put_48 : decode cX2_put 48 = .ok (.iload_n 3, 1) := by decide +kernel
theorem dX2_put_49 : decode cX2_put 49 = .ok (.iadd, 1) := by decide +kernel
theorem dX2_put_50 : decode cX2_put 50 = .ok (.iastore, 1) := by decide +kernel
theorem dX2_put_51 : decode cX2_put 51 = .ok (.return_, 1) := by decide +kernel
theorem dX2_hopeful_0 : decode cX2_hopeful 0 = .ok (.aload_n 0, 1) := by decide +kernel
theorem dX2_hopeful_1 : decode cX2_hopeful 1 = .ok (.getfield 36, 3) := by decide +kernel
theorem dX2_hopeful_4 : decode cX2_hopeful 4 = .ok (.aload_n 0, 1) := by decide +kernel
theorem dX2_hopeful_5 : decode cX2_hopeful 5 = .ok (.getfield 48, 3) := by decide +kernel
theorem dX2_hopeful_8 : decode cX2_hopeful 8 = .ok (.iaload, 1) := by decide +kernel
theorem dX2_hopeful_9 : decode cX2_hopeful 9 = .ok (.istore_n 2, 1) := by decide +kernel
theorem dX2_hopeful_10 : decode cX2_hopeful 10 = .ok (.iload_n 2, 1) := by decide +kernel
theorem dX2_hopeful_11 : decode cX2_hopeful 11 = .ok (.aload_n 0, 1) := by decide +kernel
theorem dX2_hopeful_12 : decode cX2_hopeful 12 = .ok (.getfield 52, 3) := by decide +kernel
theorem dX2_hopeful_15 : decode cX2_hopeful 15 = .ok (.invokestatic 55, 3) := by decide +kernel
theorem dX2_hopeful_18 : decode cX2_hopeful 18 = .ok (.istore_n 3, 1) := by decide +kernel
theorem dX2_hopeful_19 : decode cX2_hopeful 19 = .ok (.iload_n 2, 1) := by decide +kernel
theorem dX2_hopeful_20 : decode cX2_hopeful 20 = .ok (.aload_n 0, 1) := by decide +kernel
theorem dX2_hopeful_21 : decode cX2_hopeful 21 = .ok (.getfield 52, 3) := by decide +kernel
theorem dX2_hopeful_24 : decode cX2_hopeful 24 = .ok (.iadd, 1) := by decide +kernel
theorem dX2_hopeful_25 : decode cX2_hopeful 25 = .ok (.iconst 1, 1) := by decide +kernel
theorem dX2_hopeful_26 : decode cX2_hopeful 26 = .ok (.isub, 1) := by decide +kernel
theorem dX2_hopeful_27 : decode cX2_hopeful 27 = .ok (.aload_n 0, 1) := by decide +kernel
theorem dX2_hopeful_28 : decode cX2_hopeful 28 = .ok (.getfield 52, 3) := by decide +kernel
theorem dX2_hopeful_31 : decode cX2_hopeful 31 = .ok (.invokestatic 55, 3) := by decide +kernel
theorem dX2_hopeful_34 : decode cX2_hopeful 34 = .ok (.istore 4, 2) := by decide +kernel
theorem dX2_hopeful_36 : decode cX2_hopeful 36 = .ok (.iconst 0, 1) := by decide +kernel
theorem dX2_hopeful_37 : decode cX2_hopeful 37 = .ok (.istore 5, 2) := by decide +kernel
theorem dX2_hopeful_39 : decode cX2_hopeful 39 = .ok (.iload 5, 2) := by decide +kernel
theorem dX2_hopeful_41 : decode cX2_hopeful 41 = .ok (.aload_n 0, 1) := by decide +kernel
theorem dX2_hopeful_42 : decode cX2_hopeful 42 = .ok (.getfield 52, 3) := by decide +kernel
theorem dX2_hopeful_45 : decode cX2_hopeful 45 = .ok (.if_icmp .ge 69, 3) := by decide +kernel
theorem dX2_hopeful_48 : decode cX2_hopeful 48 = .ok (.aload_n 0, 1) := by decide +kernel
theorem dX2_hopeful_49 : decode cX2_hopeful 49 = .ok (.getfield 59, 3) := by decide +kernel
theorem dX2_hopeful_52 : decode cX2_hopeful 52 = .ok (.aload_n 0, 1) := by decide +kernel
theorem dX2_hopeful_53 : decode cX2_hopeful 53 = .ok (.getfield 30, 3) := by decide +kernel
theorem dX2_hopeful_56 : decode cX2_hopeful 56 = .ok (.iload 5, 2) := by decide +kernel
theorem dX2_hopeful_58 : decode cX2_hopeful 58 = .ok (.iaload, 1) := by decide +kernel
theorem dX2_hopeful_59 : decode cX2_hopeful 59 = .ok (.isub, 1) := by decide +kernel
theorem dX2_hopeful_60 : decode cX2_hopeful 60 = .ok (.istore 6, 2) := by decide +kernel
theorem dX2_hopeful_62 : decode cX2_hopeful 62 = .ok (.iload_n 3, 1) := by decide +kernel
theorem dX2_hopeful_63 : decode cX2_hopeful 63 = .ok (.aload_n 0, 1) := by decide +kernel
theorem dX2_hopeful_64 : decode cX2_hopeful 64 = .ok (.getfield 24, 3) := by decide +kernel
theorem dX2_hopeful_67 : decode cX2_hopeful 67 = .ok (.iload 5, 2) := by decide +kernel
theorem dX2_hopeful_69 : decode cX2_hopeful 69 = .ok (.iaload, 1) := by decide +kernel
theorem dX2_hopeful_70 : decode cX2_hopeful 70 = .ok (.aload_n 0, 1) := by decide +kernel
theorem dX2_hopeful_71 : decode cX2_hopeful 71 = .ok (.getfield 36, 3) := by decide +kernel
theorem dX2_hopeful_74 : decode cX2_hopeful 74 = .ok (.iload_n 1, 1) := by decide +kernel
theorem dX2_hopeful_75 : decode cX2_hopeful 75 = .ok (.iload 6, 2) := by decide +kernel
theorem dX2_hopeful_77 : decode cX2_hopeful 77 = .ok (.iadd, 1) := by decide +kernel
theorem dX2_hopeful_78 : decode cX2_hopeful 78 = .ok (.iaload, 1) := by decide +kernel
theorem dX2_hopeful_79 : decode cX2_hopeful 79 = .ok (.iadd, 1) := by decide +kernel
theorem dX2_hopeful_80 : decode cX2_hopeful 80 = .ok (.invokestatic 90, 3) := by decide +kernel
theorem dX2_hopeful_83 : decode cX2_hopeful 83 = .ok (.istore_n 3, 1) := by decide +kernel
theorem dX2_hopeful_84 : decode cX2_hopeful 84 = .ok (.iload 4, 2) := by decide +kernel
theorem dX2_hopeful_86 : decode cX2_hopeful 86 = .ok (.aload_n 0, 1) := by decide +kernel
theorem dX2_hopeful_87 : decode cX2_hopeful 87 = .ok (.getfield 24, 3) := by decide +kernel
theorem dX2_hopeful_90 : decode cX2_hopeful 90 = .ok (.iload 5, 2) := by decide +kernel
theorem dX2_hopeful_92 : decode cX2_hopeful 92 = .ok (.iaload, 1) := by decide +kernel
theorem dX2_hopeful_93 : decode cX2_hopeful 93 = .ok (.aload_n 0, 1) := by decide +kernel
theorem dX2_hopeful_94 : decode cX2_hopeful 94 = .ok (.getfield 33, 3) := by decide +kernel
theorem dX2_hopeful_97 : decode cX2_hopeful 97 = .ok (.iload_n 1, 1) := by decide +kernel
theorem dX2_hopeful_98 : decode cX2_hopeful 98 = .ok (.iload 6, 2) := by decide +kernel
theorem dX2_hopeful_100 : decode cX2_hopeful 100 = .ok (.iadd, 1) := by decide +kernel
theorem dX2_hopeful_101 : decode cX2_hopeful 101 = .ok (.iaload, 1) := by decide +kernel
theorem dX2_hopeful_102 : decode cX2_hopeful 102 = .ok (.iadd, 1) := by decide +kernel
theorem dX2_hopeful_103 : decode cX2_hopeful 103 = .ok (.invokestatic 95, 3) := by decide +kernel
theorem dX2_hopeful_106 : decode cX2_hopeful 106 = .ok (.istore 4, 2) := by decide +kernel
theorem dX2_hopeful_108 : decode cX2_hopeful 108 = .ok (.iinc 5 1, 3) := by decide +kernel
theorem dX2_hopeful_111 : decode cX2_hopeful 111 = .ok (.goto (-72), 3) := by decide +kernel
theorem dX2_hopeful_114 : decode cX2_hopeful 114 = .ok (.iload_n 3, 1) := by decide +kernel
theorem dX2_hopeful_115 : decode cX2_hopeful 115 = .ok (.aload_n 0, 1) := by decide +kernel
theorem dX2_hopeful_116 : decode cX2_hopeful 116 = .ok (.getfield 62, 3) := by decide +kernel
theorem dX2_hopeful_119 : decode cX2_hopeful 119 = .ok (.if_icmp .lt 21, 3) := by decide +kernel
theorem dX2_hopeful_122 : decode cX2_hopeful 122 = .ok (.iload 4, 2) := by decide +kernel
theorem dX2_hopeful_124 : decode cX2_hopeful 124 = .ok (.iload_n 2, 1) := by decide +kernel
theorem dX2_hopeful_125 : decode cX2_hopeful 125 = .ok (.aload_n 0, 1) := by decide +kernel
theorem dX2_hopeful_126 : decode cX2_hopeful 126 = .ok (.getfield 52, 3) := by decide +kernel
theorem dX2_hopeful_129 : decode cX2_hopeful 129 = .ok (.iconst 1, 1) := by decide +kernel
theorem dX2_hopeful_130 : decode cX2_hopeful 130 = .ok (.isub, 1) := by decide +kernel
theorem dX2_hopeful_131 : decode cX2_hopeful 131 = .ok (.aload_n 0, 1) := by decide +kernel
theorem dX2_hopeful_132 : decode cX2_hopeful 132 = .ok (.getfield 62, 3) := by decide +kernel
theorem dX2_hopeful_135 : decode cX2_hopeful 135 = .ok (.imul, 1) := by decide +kernel
theorem dX2_hopeful_136 : decode cX2_hopeful 136 = .ok (.isub, 1) := by decide +kernel
theorem dX2_hopeful_137 : decode cX2_hopeful 137 = .ok (.if_icmp .le 5, 3) := by decide +kernel
theorem dX2_hopeful_140 : decode cX2_hopeful 140 = .ok (.iconst 0, 1) := by decide +kernel
theorem dX2_hopeful_141 : decode cX2_hopeful 141 = .ok (.ireturn, 1) := by decide +kernel
theorem dX2_hopeful_142 : decode cX2_hopeful 142 = .ok (.iload_n 3, 1) := by decide +kernel
theorem dX2_hopeful_143 : decode cX2_hopeful 143 = .ok (.aload_n 0, 1) := by decide +kernel
theorem dX2_hopeful_144 : decode cX2_hopeful 144 = .ok (.getfield 62, 3) := by decide +kernel
theorem dX2_hopeful_147 : decode cX2_hopeful 147 = .ok (.if_icmp .gt 14, 3) := by decide +kernel
theorem dX2_hopeful_150 : decode cX2_hopeful 150 = .ok (.iload 4, 2) := by decide +kernel
theorem dX2_hopeful_152 : decode cX2_hopeful 152 = .ok (.iload_n 3, 1) := by decide +kernel
theorem dX2_hopeful_153 : decode cX2_hopeful 153 = .ok (.isub, 1) := by decide +kernel
theorem dX2_hopeful_154 : decode cX2_hopeful 154 = .ok (.aload_n 0, 1) := by decide +kernel
theorem dX2_hopeful_155 : decode cX2_hopeful 155 = .ok (.getfield 65, 3) := by decide +kernel
theorem dX2_hopeful_158 : decode cX2_hopeful 158 = .ok (.if_icmp .ge 5, 3) := by decide +kernel
theorem dX2_hopeful_161 : decode cX2_hopeful 161 = .ok (.iconst 1, 1) := by decide +kernel
theorem dX2_hopeful_162 : decode cX2_hopeful 162 = .ok (.ireturn, 1) := by decide +kernel
theorem dX2_hopeful_163 : decode cX2_hopeful 163 = .ok (.iload 4, 2) := by decide +kernel
theorem dX2_hopeful_165 : decode cX2_hopeful 165 = .ok (.iload_n 3, 1) := by decide +kernel
theorem dX2_hopeful_166 : decode cX2_hopeful 166 = .ok (.isub, 1) := by decide +kernel
theorem dX2_hopeful_167 : decode cX2_hopeful 167 = .ok (.aload_n 0, 1) := by decide +kernel
theorem dX2_hopeful_168 : decode cX2_hopeful 168 = .ok (.getfield 65, 3) := by decide +kernel
theorem dX2_hopeful_171 : decode cX2_hopeful 171 = .ok (.if_icmp .ne 19, 3) := by decide +kernel
theorem dX2_hopeful_174 : decode cX2_hopeful 174 = .ok (.aload_n 0, 1) := by decide +kernel
theorem dX2_hopeful_175 : decode cX2_hopeful 175 = .ok (.iload_n 1, 1) := by decide +kernel
theorem dX2_hopeful_176 : decode cX2_hopeful 176 = .ok (.invokevirtual 98, 3) := by decide +kernel
theorem dX2_hopeful_179 : decode cX2_hopeful 179 = .ok (.aload_n 0, 1) := by decide +kernel
theorem dX2_hopeful_180 : decode cX2_hopeful 180 = .ok (.getfield 68, 3) := by decide +kernel
theorem dX2_hopeful_183 : decode cX2_hopeful 183 = .ok (.if_icmp .ge 7, 3) := by decide +kernel
theorem dX2_hopeful_186 : decode cX2_hopeful 186 = .ok (.iconst 1, 1) := by decide +kernel
theorem dX2_hopeful_187 : decode cX2_hopeful 187 = .ok (.goto 4, 3) := by decide +kernel
theorem dX2_hopeful_190 : decode cX2_hopeful 190 = .ok (.iconst 0, 1) := by decide +kernel
theorem dX2_hopeful_191 : decode cX2_hopeful 191 = .ok (.ireturn, 1) := by decide +kernel
theorem dX2_leastUnlike_0 : decode cX2_leastUnlike 0 = .ok (.aload_n 0, 1) := by decide +kernel
theorem dX2_leastUnlike_1 : decode cX2_leastUnlike 1 = .ok (.getfield 42, 3) := by decide +kernel
theorem dX2_leastUnlike_4 : decode cX2_leastUnlike 4 = .ok (.aload_n 0, 1) := by decide +kernel
theorem dX2_leastUnlike_5 : decode cX2_leastUnlike 5 = .ok (.getfield 48, 3) := by decide +kernel
theorem dX2_leastUnlike_8 : decode cX2_leastUnlike 8 = .ok (.iaload, 1) := by decide +kernel
theorem dX2_leastUnlike_9 : decode cX2_leastUnlike 9 = .ok (.istore_n 2, 1) := by decide +kernel
theorem dX2_leastUnlike_10 : decode cX2_leastUnlike 10 = .ok (.iload_n 2, 1) := by decide +kernel
theorem dX2_leastUnlike_11 : decode cX2_leastUnlike 11 = .ok (.aload_n 0, 1) := by decide +kernel
theorem dX2_leastUnlike_12 : decode cX2_leastUnlike 12 = .ok (.getfield 52, 3) := by decide +kernel
theorem dX2_leastUnlike_15 : decode cX2_leastUnlike 15 = .ok (.invokestatic 55, 3) := by decide +kernel
theorem dX2_leastUnlike_18 : decode cX2_leastUnlike 18 = .ok (.istore_n 3, 1) := by decide +kernel
theorem dX2_leastUnlike_19 : decode cX2_leastUnlike 19 = .ok (.iload_n 2, 1) := by decide +kernel
theorem dX2_leastUnlike_20 : decode cX2_leastUnlike 20 = .ok (.aload_n 0, 1) := by decide +kernel
theorem dX2_leastUnlike_21 : decode cX2_leastUnlike 21 = .ok (.getfield 52, 3) := by decide +kernel
theorem dX2_leastUnlike_24 : decode cX2_leastUnlike 24 = .ok (.iadd, 1) := by decide +kernel
theorem dX2_leastUnlike_25 : decode cX2_leastUnlike 25 = .ok (.iconst 1, 1) := by decide +kernel
theorem dX2_leastUnlike_26 : decode cX2_leastUnlike 26 = .ok (.isub, 1) := by decide +kernel
theorem dX2_leastUnlike_27 : decode cX2_leastUnlike 27 = .ok (.aload_n 0, 1) := by decide +kernel
theorem dX2_leastUnlike_28 : decode cX2_leastUnlike 28 = .ok (.getfield 52, 3) := by decide +kernel
theorem dX2_leastUnlike_31 : decode cX2_leastUnlike 31 = .ok (.invokestatic 55, 3) := by decide +kernel
theorem dX2_leastUnlike_34 : decode cX2_leastUnlike 34 = .ok (.istore 4, 2) := by decide +kernel
theorem dX2_leastUnlike_36 : decode cX2_leastUnlike 36 = .ok (.iconst 0, 1) := by decide +kernel
theorem dX2_leastUnlike_37 : decode cX2_leastUnlike 37 = .ok (.istore 5, 2) := by decide +kernel
theorem dX2_leastUnlike_39 : decode cX2_leastUnlike 39 = .ok (.iload 5, 2) := by decide +kernel
theorem dX2_leastUnlike_41 : decode cX2_leastUnlike 41 = .ok (.aload_n 0, 1) := by decide +kernel
theorem dX2_leastUnlike_42 : decode cX2_leastUnlike 42 = .ok (.getfield 52, 3) := by decide +kernel
theorem dX2_leastUnlike_45 : decode cX2_leastUnlike 45 = .ok (.if_icmp .ge 69, 3) := by decide +kernel
theorem dX2_leastUnlike_48 : decode cX2_leastUnlike 48 = .ok (.aload_n 0, 1) := by decide +kernel
theorem dX2_leastUnlike_49 : decode cX2_leastUnlike 49 = .ok (.getfield 59, 3) := by decide +kernel
theorem dX2_leastUnlike_52 : decode cX2_leastUnlike 52 = .ok (.aload_n 0, 1) := by decide +kernel
theorem dX2_leastUnlike_53 : decode cX2_leastUnlike 53 = .ok (.getfield 30, 3) := by decide +kernel
theorem dX2_leastUnlike_56 : decode cX2_leastUnlike 56 = .ok (.iload 5, 2) := by decide +kernel
theorem dX2_leastUnlike_58 : decode cX2_leastUnlike 58 = .ok (.iaload, 1) := by decide +kernel
theorem dX2_leastUnlike_59 : decode cX2_leastUnlike 59 = .ok (.isub, 1) := by decide +kernel
theorem dX2_leastUnlike_60 : decode cX2_leastUnlike 60 = .ok (.istore 6, 2) := by decide +kernel
theorem dX2_leastUnlike_62 : decode cX2_leastUnlike 62 = .ok (.iload_n 3, 1) := by decide +kernel
theorem dX2_leastUnlike_63 : decode cX2_leastUnlike 63 = .ok (.aload_n 0, 1) := by decide +kernel
theorem dX2_leastUnlike_64 : decode cX2_leastUnlike 64 = .ok (.getfield 27, 3) := by decide +kernel
theorem dX2_leastUnlike_67 : decode cX2_leastUnlike 67 = .ok (.iload 5, 2) := by decide +kernel
theorem dX2_leastUnlike_69 : decode cX2_leastUnlike 69 = .ok (.iaload, 1) := by decide +kernel
theorem dX2_leastUnlike_70 : decode cX2_leastUnlike 70 = .ok (.aload_n 0, 1) := by decide +kernel
theorem dX2_leastUnlike_71 : decode cX2_leastUnlike 71 = .ok (.getfield 42, 3) := by decide +kernel
theorem dX2_leastUnlike_74 : decode cX2_leastUnlike 74 = .ok (.iload_n 1, 1) := by decide +kernel
theorem dX2_leastUnlike_75 : decode cX2_leastUnlike 75 = .ok (.iload 6, 2) := by decide +kernel
theorem dX2_leastUnlike_77 : decode cX2_leastUnlike 77 = .ok (.iadd, 1) := by decide +kernel
theorem dX2_leastUnlike_78 : decode cX2_leastUnlike 78 = .ok (.iaload, 1) := by decide +kernel
theorem dX2_leastUnlike_79 : decode cX2_leastUnlike 79 = .ok (.iadd, 1) := by decide +kernel
theorem dX2_leastUnlike_80 : decode cX2_leastUnlike 80 = .ok (.invokestatic 90, 3) := by decide +kernel
theorem dX2_leastUnlike_83 : decode cX2_leastUnlike 83 = .ok (.istore_n 3, 1) := by decide +kernel
theorem dX2_leastUnlike_84 : decode cX2_leastUnlike 84 = .ok (.iload 4, 2) := by decide +kernel
theorem dX2_leastUnlike_86 : decode cX2_leastUnlike 86 = .ok (.aload_n 0, 1) := by decide +kernel
theorem dX2_leastUnlike_87 : decode cX2_leastUnlike 87 = .ok (.getfield 27, 3) := by decide +kernel
theorem dX2_leastUnlike_90 : decode cX2_leastUnlike 90 = .ok (.iload 5, 2) := by decide +kernel
theorem dX2_leastUnlike_92 : decode cX2_leastUnlike 92 = .ok (.iaload, 1) := by decide +kernel
theorem dX2_leastUnlike_93 : decode cX2_leastUnlike 93 = .ok (.aload_n 0, 1) := by decide +kernel
theorem dX2_leastUnlike_94 : decode cX2_leastUnlike 94 = .ok (.getfield 39, 3) := by decide +kernel
theorem dX2_leastUnlike_97 : decode cX2_leastUnlike 97 = .ok (.iload_n 1, 1) := by decide +kernel
theorem dX2_leastUnlike_98 : decode cX2_leastUnlike 98 = .ok (.iload 6, 2) := by decide +kernel
theorem dX2_leastUnlike_100 : decode cX2_leastUnlike 100 = .ok (.iadd, 1) := by decide +kernel
theorem dX2_leastUnlike_101 : decode cX2_leastUnlike 101 = .ok (.iaload, 1) := by decide +kernel
theorem dX2_leastUnlike_102 : decode cX2_leastUnlike 102 = .ok (.iadd, 1) := by decide +kernel
theorem dX2_leastUnlike_103 : decode cX2_leastUnlike 103 = .ok (.invokestatic 95, 3) := by decide +kernel
theorem dX2_leastUnlike_106 : decode cX2_leastUnlike 106 = .ok (.istore 4, 2) := by decide +kernel
theorem dX2_leastUnlike_108 : decode cX2_leastUnlike 108 = .ok (.iinc 5 1, 3) := by decide +kernel
theorem dX2_leastUnlike_111 : decode cX2_leastUnlike 111 = .ok (.goto (-72), 3) := by decide +kernel
theorem dX2_leastUnlike_114 : decode cX2_leastUnlike 114 = .ok (.iload 4, 2) := by decide +kernel
theorem dX2_leastUnlike_116 : decode cX2_leastUnlike 116 = .ok (.iload_n 3, 1) := by decide +kernel
theorem dX2_leastUnlike_117 : decode cX2_leastUnlike 117 = .ok (.isub, 1) := by decide +kernel
theorem dX2_leastUnlike_118 : decode cX2_leastUnlike 118 = .ok (.ireturn, 1) := by decide +kernel
theorem dX2_take_0 : decode cX2_take 0 = .ok (.aload_n 0, 1) := by decide +kernel
theorem dX2_take_1 : decode cX2_take 1 = .ok (.getfield 24, 3) := by decide +kernel
theorem dX2_take_4 : decode cX2_take 4 = .ok (.iconst 0, 1) := by decide +kernel
theorem dX2_take_5 : decode cX2_take 5 = .ok (.iaload, 1) := by decide +kernel
theorem dX2_take_6 : decode cX2_take 6 = .ok (.istore_n 1, 1) := by decide +kernel
theorem dX2_take_7 : decode cX2_take 7 = .ok (.aload_n 0, 1) := by decide +kernel
theorem dX2_take_8 : decode cX2_take 8 = .ok (.getfield 27, 3) := by decide +kernel
theorem dX2_take_11 : decode cX2_take 11 = .ok (.iconst 0, 1) := by decide +kernel
theorem dX2_take_12 : decode cX2_take 12 = .ok (.iaload, 1) := by decide +kernel
theorem dX2_take_13 : decode cX2_take 13 = .ok (.istore_n 2, 1) := by decide +kernel
theorem dX2_take_14 : decode cX2_take 14 = .ok (.aload_n 0, 1) := by decide +kernel
theorem dX2_take_15 : decode cX2_take 15 = .ok (.getfield 27, 3) := by decide +kernel
theorem dX2_take_18 : decode cX2_take 18 = .ok (.iconst 0, 1) := by decide +kernel
theorem dX2_take_19 : decode cX2_take 19 = .ok (.iaload, 1) := by decide +kernel
theorem dX2_take_20 : decode cX2_take 20 = .ok (.istore_n 3, 1) := by decide +kernel
theorem dX2_take_21 : decode cX2_take 21 = .ok (.aload_n 0, 1) := by decide +kernel
theorem dX2_take_22 : decode cX2_take 22 = .ok (.aload_n 0, 1) := by decide +kernel
theorem dX2_take_23 : decode cX2_take 23 = .ok (.getfield 24, 3) := by decide +kernel
theorem dX2_take_26 : decode cX2_take 26 = .ok (.iconst 0, 1) := by decide +kernel
theorem dX2_take_27 : decode cX2_take 27 = .ok (.iaload, 1) := by decide +kernel
theorem dX2_take_28 : decode cX2_take 28 = .ok (.putfield 62, 3) := by decide +kernel
theorem dX2_take_31 : decode cX2_take 31 = .ok (.iconst 1, 1) := by decide +kernel
theorem dX2_take_32 : decode cX2_take 32 = .ok (.istore 4, 2) := by decide +kernel
theorem dX2_take_34 : decode cX2_take 34 = .ok (.iload 4, 2) := by decide +kernel
theorem dX2_take_36 : decode cX2_take 36 = .ok (.aload_n 0, 1) := by decide +kernel
theorem dX2_take_37 : decode cX2_take 37 = .ok (.getfield 52, 3) := by decide +kernel
theorem dX2_take_40 : decode cX2_take 40 = .ok (.if_icmp .ge 63, 3) := by decide +kernel
theorem dX2_take_43 : decode cX2_take 43 = .ok (.aload_n 0, 1) := by decide +kernel
theorem dX2_take_44 : decode cX2_take 44 = .ok (.aload_n 0, 1) := by decide +kernel
theorem dX2_take_45 : decode cX2_take 45 = .ok (.getfield 62, 3) := by decide +kernel
theorem dX2_take_48 : decode cX2_take 48 = .ok (.aload_n 0, 1) := by decide +kernel
theorem dX2_take_49 : decode cX2_take 49 = .ok (.getfield 24, 3) := by decide +kernel
theorem dX2_take_52 : decode cX2_take 52 = .ok (.iload 4, 2) := by decide +kernel
theorem dX2_take_54 : decode cX2_take 54 = .ok (.iaload, 1) := by decide +kernel
theorem dX2_take_55 : decode cX2_take 55 = .ok (.invokestatic 90, 3) := by decide +kernel
theorem dX2_take_58 : decode cX2_take 58 = .ok (.putfield 62, 3) := by decide +kernel
theorem dX2_take_61 : decode cX2_take 61 = .ok (.iload_n 1, 1) := by decide +kernel
theorem dX2_take_62 : decode cX2_take 62 = .ok (.aload_n 0, 1) := by decide +kernel
theorem dX2_take_63 : decode cX2_take 63 = .ok (.getfield 24, 3) := by decide +kernel
theorem dX2_take_66 : decode cX2_take 66 = .ok (.iload 4, 2) := by decide +kernel
theorem dX2_take_68 : decode cX2_take 68 = .ok (.iaload, 1) := by decide +kernel
theorem dX2_take_69 : decode cX2_take 69 = .ok (.invokestatic 95, 3) := by decide +kernel
theorem dX2_take_72 : decode cX2_take 72 = .ok (.istore_n 1, 1) := by decide +kernel
theorem dX2_take_73 : decode cX2_take 73 = .ok (.iload_n 2, 1) := by decide +kernel
theorem dX2_take_74 : decode cX2_take 74 = .ok (.aload_n 0, 1) := by decide +kernel
theorem dX2_take_75 : decode cX2_take 75 = .ok (.getfield 27, 3) := by decide +kernel
theorem dX2_take_78 : decode cX2_take 78 = .ok (.iload 4, 2) := by decide +kernel
theorem dX2_take_80 : decode cX2_take 80 = .ok (.iaload, 1) := by decide +kernel
theorem dX2_take_81 : decode cX2_take 81 = .ok (.invokestatic 90, 3) := by decide +kernel
theorem dX2_take_84 : decode cX2_take 84 = .ok (.istore_n 2, 1) := by decide +kernel
theorem dX2_take_85 : decode cX2_take 85 = .ok (.iload_n 3, 1) := by decide +kernel
theorem dX2_take_86 : decode cX2_take 86 = .ok (.aload_n 0, 1) := by decide +kernel
theorem dX2_take_87 : decode cX2_take 87 = .ok (.getfield 27, 3) := by decide +kernel
theorem dX2_take_90 : decode cX2_take 90 = .ok (.iload 4, 2) := by decide +kernel
theorem dX2_take_92 : decode cX2_take 92 = .ok (.iaload, 1) := by decide +kernel
theorem dX2_take_93 : decode cX2_take 93 = .ok (.invokestatic 95, 3) := by decide +kernel
theorem dX2_take_96 : decode cX2_take 96 = .ok (.istore_n 3, 1) := by decide +kernel
theorem dX2_take_97 : decode cX2_take 97 = .ok (.iinc 4 1, 3) := by decide +kernel
theorem dX2_take_100 : decode cX2_take 100 = .ok (.goto (-66), 3) := by decide +kernel
theorem dX2_take_103 : decode cX2_take 103 = .ok (.aload_n 0, 1) := by decide +kernel
theorem dX2_take_104 : decode cX2_take 104 = .ok (.iload_n 1, 1) := by decide +kernel
theorem dX2_take_105 : decode cX2_take 105 = .ok (.aload_n 0, 1) := by decide +kernel
theorem dX2_take_106 : decode cX2_take 106 = .ok (.getfield 62, 3) := by decide +kernel
theorem dX2_take_109 : decode cX2_take 109 = .ok (.isub, 1) := by decide +kernel
theorem dX2_take_110 : decode cX2_take 110 = .ok (.putfield 65, 3) := by decide +kernel
theorem dX2_take_113 : decode cX2_take 113 = .ok (.aload_n 0, 1) := by decide +kernel
theorem dX2_take_114 : decode cX2_take 114 = .ok (.iload_n 3, 1) := by decide +kernel
theorem dX2_take_115 : decode cX2_take 115 = .ok (.iload_n 2, 1) := by decide +kernel
theorem dX2_take_116 : decode cX2_take 116 = .ok (.isub, 1) := by decide +kernel
theorem dX2_take_117 : decode cX2_take 117 = .ok (.putfield 68, 3) := by decide +kernel
theorem dX2_take_120 : decode cX2_take 120 = .ok (.aload_n 0, 1) := by decide +kernel
theorem dX2_take_121 : decode cX2_take 121 = .ok (.getfield 21, 3) := by decide +kernel
theorem dX2_take_124 : decode cX2_take 124 = .ok (.iconst 0, 1) := by decide +kernel
theorem dX2_take_125 : decode cX2_take 125 = .ok (.aload_n 0, 1) := by decide +kernel
theorem dX2_take_126 : decode cX2_take 126 = .ok (.getfield 11, 3) := by decide +kernel
theorem dX2_take_129 : decode cX2_take 129 = .ok (.iconst 0, 1) := by decide +kernel
theorem dX2_take_130 : decode cX2_take 130 = .ok (.aload_n 0, 1) := by decide +kernel
theorem dX2_take_131 : decode cX2_take 131 = .ok (.getfield 48, 3) := by decide +kernel
theorem dX2_take_134 : decode cX2_take 134 = .ok (.invokestatic 102, 3) := by decide +kernel
theorem dX2_take_137 : decode cX2_take 137 = .ok (.return_, 1) := by decide +kernel
