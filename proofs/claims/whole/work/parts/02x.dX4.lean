theorem dX4_init_0 : decode cX4_init 0 = .ok (.aload_n 0, 1) := by decide +kernel
theorem dX4_init_1 : decode cX4_init 1 = .ok (.invokespecial 1, 3) := by decide +kernel
theorem dX4_init_4 : decode cX4_init 4 = .ok (.aload_n 0, 1) := by decide +kernel
theorem dX4_init_5 : decode cX4_init 5 = .ok (.bipush 9, 2) := by decide +kernel
theorem dX4_init_7 : decode cX4_init 7 = .ok (.newarray .int, 2) := by decide +kernel
theorem dX4_init_9 : decode cX4_init 9 = .ok (.putfield 9, 3) := by decide +kernel
theorem dX4_init_12 : decode cX4_init 12 = .ok (.aload_n 0, 1) := by decide +kernel
theorem dX4_init_13 : decode cX4_init 13 = .ok (.bipush 9, 2) := by decide +kernel
theorem dX4_init_15 : decode cX4_init 15 = .ok (.newarray .int, 2) := by decide +kernel
theorem dX4_init_17 : decode cX4_init 17 = .ok (.putfield 13, 3) := by decide +kernel
theorem dX4_init_20 : decode cX4_init 20 = .ok (.aload_n 0, 1) := by decide +kernel
theorem dX4_init_21 : decode cX4_init 21 = .ok (.bipush 9, 2) := by decide +kernel
theorem dX4_init_23 : decode cX4_init 23 = .ok (.newarray .int, 2) := by decide +kernel
theorem dX4_init_25 : decode cX4_init 25 = .ok (.putfield 16, 3) := by decide +kernel
theorem dX4_init_28 : decode cX4_init 28 = .ok (.aload_n 0, 1) := by decide +kernel
theorem dX4_init_29 : decode cX4_init 29 = .ok (.iconst 4, 1) := by decide +kernel
theorem dX4_init_30 : decode cX4_init 30 = .ok (.newarray .int, 2) := by decide +kernel
theorem dX4_init_32 : decode cX4_init 32 = .ok (.putfield 19, 3) := by decide +kernel
theorem dX4_init_35 : decode cX4_init 35 = .ok (.return_, 1) := by decide +kernel
theorem dX4_start_0 : decode cX4_start 0 = .ok (.aload_n 0, 1) := by decide +kernel
theorem dX4_start_1 : decode cX4_start 1 = .ok (.iload_n 1, 1) := by decide +kernel
theorem dX4_start_2 : decode cX4_start 2 = .ok (.putfield 22, 3) := by decide +kernel
theorem dX4_start_5 : decode cX4_start 5 = .ok (.aload_n 0, 1) := by decide +kernel
theorem dX4_start_6 : decode cX4_start 6 = .ok (.iload_n 2, 1) := by decide +kernel
theorem dX4_start_7 : decode cX4_start 7 = .ok (.putfield 26, 3) := by decide +kernel
theorem dX4_start_10 : decode cX4_start 10 = .ok (.return_, 1) := by decide +kernel
theorem dX4_find_0 : decode cX4_find 0 = .ok (.iconst 0, 1) := by decide +kernel
theorem dX4_find_1 : decode cX4_find 1 = .ok (.istore_n 1, 1) := by decide +kernel
theorem dX4_find_2 : decode cX4_find 2 = .ok (.iconst 0, 1) := by decide +kernel
theorem dX4_find_3 : decode cX4_find 3 = .ok (.istore_n 2, 1) := by decide +kernel
theorem dX4_find_4 : decode cX4_find 4 = .ok (.iload_n 2, 1) := by decide +kernel
theorem dX4_find_5 : decode cX4_find 5 = .ok (.aload_n 0, 1) := by decide +kernel
theorem dX4_find_6 : decode cX4_find 6 = .ok (.getfield 22, 3) := by decide +kernel
theorem dX4_find_9 : decode cX4_find 9 = .ok (.if_icmp .ge 18, 3) := by decide +kernel
theorem dX4_find_12 : decode cX4_find 12 = .ok (.iload_n 1, 1) := by decide +kernel
theorem dX4_find_13 : decode cX4_find 13 = .ok (.aload_n 0, 1) := by decide +kernel
theorem dX4_find_14 : decode cX4_find 14 = .ok (.getfield 9, 3) := by decide +kernel
theorem dX4_find_17 : decode cX4_find 17 = .ok (.iload_n 2, 1) := by decide +kernel
theorem dX4_find_18 : decode cX4_find 18 = .ok (.iaload, 1) := by decide +kernel
theorem dX4_find_19 : decode cX4_find 19 = .ok (.iadd, 1) := by decide +kernel
theorem dX4_find_20 : decode cX4_find 20 = .ok (.istore_n 1, 1) := by decide +kernel
theorem dX4_find_21 : decode cX4_find 21 = .ok (.iinc 2 1, 3) := by decide +kernel
theorem dX4_find_24 : decode cX4_find 24 = .ok (.goto (-20), 3) := by decide +kernel
theorem dX4_find_27 : decode cX4_find 27 = .ok (.iconst 0, 1) := by decide +kernel
theorem dX4_find_28 : decode cX4_find 28 = .ok (.istore_n 2, 1) := by decide +kernel
theorem dX4_find_29 : decode cX4_find 29 = .ok (.iload_n 2, 1) := by decide +kernel
theorem dX4_find_30 : decode cX4_find 30 = .ok (.aload_n 0, 1) := by decide +kernel
theorem dX4_find_31 : decode cX4_find 31 = .ok (.getfield 26, 3) := by decide +kernel
theorem dX4_find_34 : decode cX4_find 34 = .ok (.if_icmp .ge 16, 3) := by decide +kernel
theorem dX4_find_37 : decode cX4_find 37 = .ok (.aload_n 0, 1) := by decide +kernel
theorem dX4_find_38 : decode cX4_find 38 = .ok (.getfield 19, 3) := by decide +kernel
theorem dX4_find_41 : decode cX4_find 41 = .ok (.iload_n 2, 1) := by decide +kernel
theorem dX4_find_42 : decode cX4_find 42 = .ok (.iconst 0, 1) := by decide +kernel
theorem dX4_find_43 : decode cX4_find 43 = .ok (.iastore, 1) := by decide +kernel
theorem dX4_find_44 : decode cX4_find 44 = .ok (.iinc 2 1, 3) := by decide +kernel
theorem dX4_find_47 : decode cX4_find 47 = .ok (.goto (-18), 3) := by decide +kernel
theorem dX4_find_50 : decode cX4_find 50 = .ok (.aload_n 0, 1) := by decide +kernel
theorem dX4_find_51 : decode cX4_find 51 = .ok (.iload_n 1, 1) := by decide +kernel
theorem dX4_find_52 : decode cX4_find 52 = .ok (.aload_n 0, 1) := by decide +kernel
theorem dX4_find_53 : decode cX4_find 53 = .ok (.getfield 26, 3) := by decide +kernel
theorem dX4_find_56 : decode cX4_find 56 = .ok (.iadd, 1) := by decide +kernel
theorem dX4_find_57 : decode cX4_find 57 = .ok (.iconst 1, 1) := by decide +kernel
theorem dX4_find_58 : decode cX4_find 58 = .ok (.isub, 1) := by decide +kernel
theorem dX4_find_59 : decode cX4_find 59 = .ok (.aload_n 0, 1) := by decide +kernel
theorem dX4_find_60 : decode cX4_find 60 = .ok (.getfield 26, 3) := by decide +kernel
theorem dX4_find_63 : decode cX4_find 63 = .ok (.invokestatic 29, 3) := by decide +kernel
theorem dX4_find_66 : decode cX4_find 66 = .ok (.putfield 35, 3) := by decide +kernel
theorem dX4_find_69 : decode cX4_find 69 = .ok (.aload_n 0, 1) := by decide +kernel
theorem dX4_find_70 : decode cX4_find 70 = .ok (.iload_n 1, 1) := by decide +kernel
theorem dX4_find_71 : decode cX4_find 71 = .ok (.iconst 1, 1) := by decide +kernel
theorem dX4_find_72 : decode cX4_find 72 = .ok (.iadd, 1) := by decide +kernel
theorem dX4_find_73 : decode cX4_find 73 = .ok (.putfield 38, 3) := by decide +kernel
theorem dX4_find_76 : decode cX4_find 76 = .ok (.aload_n 0, 1) := by decide +kernel
theorem dX4_find_77 : decode cX4_find 77 = .ok (.iconst 0, 1) := by decide +kernel
theorem dX4_find_78 : decode cX4_find 78 = .ok (.iconst 0, 1) := by decide +kernel
theorem dX4_find_79 : decode cX4_find 79 = .ok (.invokevirtual 41, 3) := by decide +kernel
theorem dX4_find_82 : decode cX4_find 82 = .ok (.return_, 1) := by decide +kernel
theorem dX4_place_0 : decode cX4_place 0 = .ok (.iload_n 1, 1) := by decide +kernel
theorem dX4_place_1 : decode cX4_place 1 = .ok (.aload_n 0, 1) := by decide +kernel
theorem dX4_place_2 : decode cX4_place 2 = .ok (.getfield 22, 3) := by decide +kernel
theorem dX4_place_5 : decode cX4_place 5 = .ok (.if_icmp .lt 8, 3) := by decide +kernel
theorem dX4_place_8 : decode cX4_place 8 = .ok (.aload_n 0, 1) := by decide +kernel
theorem dX4_place_9 : decode cX4_place 9 = .ok (.invokevirtual 45, 3) := by decide +kernel
theorem dX4_place_12 : decode cX4_place 12 = .ok (.return_, 1) := by decide +kernel
theorem dX4_place_13 : decode cX4_place 13 = .ok (.iconst 0, 1) := by decide +kernel
theorem dX4_place_14 : decode cX4_place 14 = .ok (.istore_n 3, 1) := by decide +kernel
theorem dX4_place_15 : decode cX4_place 15 = .ok (.iload_n 3, 1) := by decide +kernel
theorem dX4_place_16 : decode cX4_place 16 = .ok (.iload_n 2, 1) := by decide +kernel
theorem dX4_place_17 : decode cX4_place 17 = .ok (.if_icmp .gt 104, 3) := by decide +kernel
theorem dX4_place_20 : decode cX4_place 20 = .ok (.iload_n 3, 1) := by decide +kernel
theorem dX4_place_21 : decode cX4_place 21 = .ok (.aload_n 0, 1) := by decide +kernel
theorem dX4_place_22 : decode cX4_place 22 = .ok (.getfield 26, 3) := by decide +kernel
theorem dX4_place_25 : decode cX4_place 25 = .ok (.if_icmp .ge 96, 3) := by decide +kernel
theorem dX4_place_28 : decode cX4_place 28 = .ok (.aload_n 0, 1) := by decide +kernel
theorem dX4_place_29 : decode cX4_place 29 = .ok (.getfield 38, 3) := by decide +kernel
theorem dX4_place_32 : decode cX4_place 32 = .ok (.aload_n 0, 1) := by decide +kernel
theorem dX4_place_33 : decode cX4_place 33 = .ok (.getfield 35, 3) := by decide +kernel
theorem dX4_place_36 : decode cX4_place 36 = .ok (.if_icmp .le 85, 3) := by decide +kernel
theorem dX4_place_39 : decode cX4_place 39 = .ok (.aload_n 0, 1) := by decide +kernel
theorem dX4_place_40 : decode cX4_place 40 = .ok (.getfield 19, 3) := by decide +kernel
theorem dX4_place_43 : decode cX4_place 43 = .ok (.iload_n 3, 1) := by decide +kernel
theorem dX4_place_44 : decode cX4_place 44 = .ok (.iaload, 1) := by decide +kernel
theorem dX4_place_45 : decode cX4_place 45 = .ok (.aload_n 0, 1) := by decide +kernel
theorem dX4_place_46 : decode cX4_place 46 = .ok (.getfield 9, 3) := by decide +kernel
theorem dX4_place_49 : decode cX4_place 49 = .ok (.iload_n 1, 1) := by decide +kernel
theorem dX4_place_50 : decode cX4_place 50 = .ok (.iaload, 1) := by decide +kernel
theorem dX4_place_51 : decode cX4_place 51 = .ok (.iadd, 1) := by decide +kernel
theorem dX4_place_52 : decode cX4_place 52 = .ok (.aload_n 0, 1) := by decide +kernel
theorem dX4_place_53 : decode cX4_place 53 = .ok (.getfield 38, 3) := by decide +kernel
theorem dX4_place_56 : decode cX4_place 56 = .ok (.if_icmp .ge 59, 3) := by decide +kernel
theorem dX4_place_59 : decode cX4_place 59 = .ok (.aload_n 0, 1) := by decide +kernel
theorem dX4_place_60 : decode cX4_place 60 = .ok (.getfield 16, 3) := by decide +kernel
theorem dX4_place_63 : decode cX4_place 63 = .ok (.iload_n 1, 1) := by decide +kernel
theorem dX4_place_64 : decode cX4_place 64 = .ok (.iload_n 3, 1) := by decide +kernel
theorem dX4_place_65 : decode cX4_place 65 = .ok (.iastore, 1) := by decide +kernel
theorem dX4_place_66 : decode cX4_place 66 = .ok (.aload_n 0, 1) := by decide +kernel
theorem dX4_place_67 : decode cX4_place 67 = .ok (.getfield 19, 3) := by decide +kernel
theorem dX4_place_70 : decode cX4_place 70 = .ok (.iload_n 3, 1) := by decide +kernel
theorem dX4_place_71 : decode cX4_place 71 = .ok (.dup2, 1) := by decide +kernel
theorem dX4_place_72 : decode cX4_place 72 = .ok (.iaload, 1) := by decide +kernel
theorem dX4_place_73 : decode cX4_place 73 = .ok (.aload_n 0, 1) := by decide +kernel
theorem dX4_place_74 : decode cX4_place 74 = .ok (.getfield 9, 3) := by decide +kernel
theorem dX4_place_77 : decode cX4_place 77 = .ok (.iload_n 1, 1) := by decide +kernel
theorem dX4_place_78 : decode cX4_place 78 = .ok (.iaload, 1) := by decide +kernel
theorem dX4_place_79 : decode cX4_place 79 = .ok (.iadd, 1) := by decide +kernel
theorem dX4_place_80 : decode cX4_place 80 = .ok (.iastore, 1) := by decide +kernel
theorem dX4_place_81 : decode cX4_place 81 = .ok (.aload_n 0, 1) := by decide +kernel
theorem dX4_place_82 : decode cX4_place 82 = .ok (.iload_n 1, 1) := by decide +kernel
theorem dX4_place_83 : decode cX4_place 83 = .ok (.iconst 1, 1) := by decide +kernel
theorem dX4_place_84 : decode cX4_place 84 = .ok (.iadd, 1) := by decide +kernel
theorem dX4_place_85 : decode cX4_place 85 = .ok (.iload_n 3, 1) := by decide +kernel
theorem dX4_place_86 : decode cX4_place 86 = .ok (.iload_n 2, 1) := by decide +kernel
theorem dX4_place_87 : decode cX4_place 87 = .ok (.if_icmp .ne 9, 3) := by decide +kernel
theorem dX4_place_90 : decode cX4_place 90 = .ok (.iload_n 2, 1) := by decide +kernel
theorem dX4_place_91 : decode cX4_place 91 = .ok (.iconst 1, 1) := by decide +kernel
theorem dX4_place_92 : decode cX4_place 92 = .ok (.iadd, 1) := by decide +kernel
theorem dX4_place_93 : decode cX4_place 93 = .ok (.goto 4, 3) := by decide +kernel
theorem dX4_place_96 : decode cX4_place 96 = .ok (.iload_n 2, 1) := by decide +kernel
theorem dX4_place_97 : decode cX4_place 97 = .ok (.invokevirtual 41, 3) := by decide +kernel
theorem dX4_place_100 : decode cX4_place 100 = .ok (.aload_n 0, 1) := by decide +kernel
theorem dX4_place_101 : decode cX4_place 101 = .ok (.getfield 19, 3) := by decide +kernel
theorem dX4_place_104 : decode cX4_place 104 = .ok (.iload_n 3, 1) := by decide +kernel
theorem dX4_place_105 : decode cX4_place 105 = .ok (.dup2, 1) := by decide +kernel
theorem dX4_place_106 : decode cX4_place 106 = .ok (.iaload, 1) := by decide +kernel
theorem dX4_place_107 : decode cX4_place 107 = .ok (.aload_n 0, 1) := by decide +kernel
theorem dX4_place_108 : decode cX4_place 108 = .ok (.getfield 9, 3) := by decide +kernel
theorem dX4_place_111 : decode cX4_place 111 = .ok (.iload_n 1, 1) := by decide +kernel
theorem dX4_place_112 : decode cX4_place 112 = .ok (.iaload, 1) := by decide +kernel
theorem dX4_place_113 : decode cX4_place 113 = .ok (.isub, 1) := by decide +kernel
theorem dX4_place_114 : decode cX4_place 114 = .ok (.iastore, 1) := by decide +kernel
theorem dX4_place_115 : decode cX4_place 115 = .ok (.iinc 3 1, 3) := by decide +kernel
theorem dX4_place_118 : decode cX4_place 118 = .ok (.goto (-103), 3) := by decide +kernel
theorem dX4_place_121 : decode cX4_place 121 = .ok (.return_, 1) := by decide +kernel
theorem dX4_take_0 : decode cX4_take 0 = .ok (.iconst 0, 1) := by decide +kernel
theorem dX4_take_1 : decode cX4_take 1 = .ok (.istore_n 1, 1) := by decide +kernel
theorem dX4_take_2 : decode cX4_take 2 = .ok (.iconst 0, 1) := by decide +kernel
theorem dX4_take_3 : decode cX4_take 3 = .ok (.istore_n 2, 1) := by decide +kernel
theorem dX4_take_4 : decode cX4_take 4 = .ok (.iload_n 2, 1) := by decide +kernel
theorem dX4_take_5 : decode cX4_take 5 = .ok (.aload_n 0, 1) := by decide +kernel
theorem dX4_take_6 : decode cX4_take 6 = .ok (.getfield 26, 3) := by decide +kernel
theorem dX4_take_9 : decode cX4_take 9 = .ok (.if_icmp .ge 20, 3) := by decide +kernel
theorem dX4_take_12 : decode cX4_take 12 = .ok (.iload_n 1, 1) := by decide +kernel
theorem dX4_take_13 : decode cX4_take 13 = .ok (.aload_n 0, 1) := by decide +kernel
theorem dX4_take_14 : decode cX4_take 14 = .ok (.getfield 19, 3) := by decide +kernel
theorem dX4_take_17 : decode cX4_take 17 = .ok (.iload_n 2, 1) := by decide +kernel
theorem dX4_take_18 : decode cX4_take 18 = .ok (.iaload, 1) := by decide +kernel
theorem dX4_take_19 : decode cX4_take 19 = .ok (.invokestatic 48, 3) := by decide +kernel
theorem dX4_take_22 : decode cX4_take 22 = .ok (.istore_n 1, 1) := by decide +kernel
theorem dX4_take_23 : decode cX4_take 23 = .ok (.iinc 2 1, 3) := by decide +kernel
theorem dX4_take_26 : decode cX4_take 26 = .ok (.goto (-22), 3) := by decide +kernel
theorem dX4_take_29 : decode cX4_take 29 = .ok (.iload_n 1, 1) := by decide +kernel
theorem dX4_take_30 : decode cX4_take 30 = .ok (.aload_n 0, 1) := by decide +kernel
theorem dX4_take_31 : decode cX4_take 31 = .ok (.getfield 38, 3) := by decide +kernel
theorem dX4_take_34 : decode cX4_take 34 = .ok (.if_icmp .ge 25, 3) := by decide +kernel
theorem dX4_take_37 : decode cX4_take 37 = .ok (.aload_n 0, 1) := by decide +kernel
theorem dX4_take_38 : decode cX4_take 38 = .ok (.iload_n 1, 1) := by decide +kernel
theorem dX4_take_39 : decode cX4_take 39 = .ok (.putfield 38, 3) := by decide +kernel
theorem dX4_take_42 : decode cX4_take 42 = .ok (.aload_n 0, 1) := by decide +kernel
theorem dX4_take_43 : decode cX4_take 43 = .ok (.getfield 16, 3) := by decide +kernel
theorem dX4_take_46 : decode cX4_take 46 = .ok (.iconst 0, 1) := by decide +kernel
theorem dX4_take_47 : decode cX4_take 47 = .ok (.aload_n 0, 1) := by decide +kernel
theorem dX4_take_48 : decode cX4_take 48 = .ok (.getfield 13, 3) := by decide +kernel
theorem dX4_take_51 : decode cX4_take 51 = .ok (.iconst 0, 1) := by decide +kernel
theorem dX4_take_52 : decode cX4_take 52 = .ok (.aload_n 0, 1) := by decide +kernel
theorem dX4_take_53 : decode cX4_take 53 = .ok (.getfield 22, 3) := by decide +kernel
theorem dX4_take_56 : decode cX4_take 56 = .ok (.invokestatic 53, 3) := by decide +kernel
theorem dX4_take_59 : decode cX4_take 59 = .ok (.return_, 1) := by decide +kernel
