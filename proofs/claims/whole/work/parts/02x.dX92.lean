theorem dX11_init_0 : decode cX11_init 0 = .ok (.aload_n 0, 1) := by decide +kernel
theorem dX11_init_1 : decode cX11_init 1 = .ok (.invokespecial 1, 3) := by decide +kernel
theorem dX11_init_4 : decode cX11_init 4 = .ok (.aload_n 0, 1) := by decide +kernel
theorem dX11_init_5 : decode cX11_init 5 = .ok (.new 7, 3) := by decide +kernel
theorem dX11_init_8 : decode cX11_init 8 = .ok (.dup, 1) := by decide +kernel
theorem dX11_init_9 : decode cX11_init 9 = .ok (.invokespecial 9, 3) := by decide +kernel
theorem dX11_init_12 : decode cX11_init 12 = .ok (.putfield 10, 3) := by decide +kernel
theorem dX11_init_15 : decode cX11_init 15 = .ok (.aload_n 0, 1) := by decide +kernel
theorem dX11_init_16 : decode cX11_init 16 = .ok (.new 16, 3) := by decide +kernel
theorem dX11_init_19 : decode cX11_init 19 = .ok (.dup, 1) := by decide +kernel
theorem dX11_init_20 : decode cX11_init 20 = .ok (.invokespecial 18, 3) := by decide +kernel
theorem dX11_init_23 : decode cX11_init 23 = .ok (.putfield 19, 3) := by decide +kernel
theorem dX11_init_26 : decode cX11_init 26 = .ok (.aload_n 0, 1) := by decide +kernel
theorem dX11_init_27 : decode cX11_init 27 = .ok (.iconst 2, 1) := by decide +kernel
theorem dX11_init_28 : decode cX11_init 28 = .ok (.anewarray 16, 3) := by decide +kernel
theorem dX11_init_31 : decode cX11_init 31 = .ok (.putfield 23, 3) := by decide +kernel
theorem dX11_init_34 : decode cX11_init 34 = .ok (.aload_n 0, 1) := by decide +kernel
theorem dX11_init_35 : decode cX11_init 35 = .ok (.new 27, 3) := by decide +kernel
theorem dX11_init_38 : decode cX11_init 38 = .ok (.dup, 1) := by decide +kernel
theorem dX11_init_39 : decode cX11_init 39 = .ok (.invokespecial 29, 3) := by decide +kernel
theorem dX11_init_42 : decode cX11_init 42 = .ok (.putfield 30, 3) := by decide +kernel
theorem dX11_init_45 : decode cX11_init 45 = .ok (.aload_n 0, 1) := by decide +kernel
theorem dX11_init_46 : decode cX11_init 46 = .ok (.new 34, 3) := by decide +kernel
theorem dX11_init_49 : decode cX11_init 49 = .ok (.dup, 1) := by decide +kernel
theorem dX11_init_50 : decode cX11_init 50 = .ok (.invokespecial 36, 3) := by decide +kernel
theorem dX11_init_53 : decode cX11_init 53 = .ok (.putfield 37, 3) := by decide +kernel
theorem dX11_init_56 : decode cX11_init 56 = .ok (.aload_n 0, 1) := by decide +kernel
theorem dX11_init_57 : decode cX11_init 57 = .ok (.new 41, 3) := by decide +kernel
theorem dX11_init_60 : decode cX11_init 60 = .ok (.dup, 1) := by decide +kernel
theorem dX11_init_61 : decode cX11_init 61 = .ok (.invokespecial 43, 3) := by decide +kernel
theorem dX11_init_64 : decode cX11_init 64 = .ok (.putfield 44, 3) := by decide +kernel
theorem dX11_init_67 : decode cX11_init 67 = .ok (.aload_n 0, 1) := by decide +kernel
theorem dX11_init_68 : decode cX11_init 68 = .ok (.bipush 60, 2) := by decide +kernel
theorem dX11_init_70 : decode cX11_init 70 = .ok (.newarray .int, 2) := by decide +kernel
theorem dX11_init_72 : decode cX11_init 72 = .ok (.putfield 48, 3) := by decide +kernel
theorem dX11_init_75 : decode cX11_init 75 = .ok (.aload_n 0, 1) := by decide +kernel
theorem dX11_init_76 : decode cX11_init 76 = .ok (.new 52, 3) := by decide +kernel
theorem dX11_init_79 : decode cX11_init 79 = .ok (.dup, 1) := by decide +kernel
theorem dX11_init_80 : decode cX11_init 80 = .ok (.invokespecial 54, 3) := by decide +kernel
theorem dX11_init_83 : decode cX11_init 83 = .ok (.putfield 55, 3) := by decide +kernel
theorem dX11_init_86 : decode cX11_init 86 = .ok (.aload_n 0, 1) := by decide +kernel
theorem dX11_init_87 : decode cX11_init 87 = .ok (.new 59, 3) := by decide +kernel
theorem dX11_init_90 : decode cX11_init 90 = .ok (.dup, 1) := by decide +kernel
theorem dX11_init_91 : decode cX11_init 91 = .ok (.invokespecial 61, 3) := by decide +kernel
theorem dX11_init_94 : decode cX11_init 94 = .ok (.putfield 62, 3) := by decide +kernel
theorem dX11_init_97 : decode cX11_init 97 = .ok (.aload_n 0, 1) := by decide +kernel
theorem dX11_init_98 : decode cX11_init 98 = .ok (.new 66, 3) := by decide +kernel
theorem dX11_init_101 : decode cX11_init 101 = .ok (.dup, 1) := by decide +kernel
theorem dX11_init_102 : decode cX11_init 102 = .ok (.invokespecial 68, 3) := by decide +kernel
theorem dX11_init_105 : decode cX11_init 105 = .ok (.putfield 69, 3) := by decide +kernel
theorem dX11_init_108 : decode cX11_init 108 = .ok (.aload_n 0, 1) := by decide +kernel
theorem dX11_init_109 : decode cX11_init 109 = .ok (.iconst (-1), 1) := by decide +kernel
theorem dX11_init_110 : decode cX11_init 110 = .ok (.putfield 73, 3) := by decide +kernel
theorem dX11_init_113 : decode cX11_init 113 = .ok (.aload_n 0, 1) := by decide +kernel
theorem dX11_init_114 : decode cX11_init 114 = .ok (.iconst (-1), 1) := by decide +kernel
theorem dX11_init_115 : decode cX11_init 115 = .ok (.putfield 77, 3) := by decide +kernel
theorem dX11_init_118 : decode cX11_init 118 = .ok (.aload_n 0, 1) := by decide +kernel
theorem dX11_init_119 : decode cX11_init 119 = .ok (.iconst (-1), 1) := by decide +kernel
theorem dX11_init_120 : decode cX11_init 120 = .ok (.putfield 80, 3) := by decide +kernel
theorem dX11_init_123 : decode cX11_init 123 = .ok (.aload_n 0, 1) := by decide +kernel
theorem dX11_init_124 : decode cX11_init 124 = .ok (.new 83, 3) := by decide +kernel
theorem dX11_init_127 : decode cX11_init 127 = .ok (.dup, 1) := by decide +kernel
theorem dX11_init_128 : decode cX11_init 128 = .ok (.invokespecial 85, 3) := by decide +kernel
theorem dX11_init_131 : decode cX11_init 131 = .ok (.putfield 86, 3) := by decide +kernel
theorem dX11_init_134 : decode cX11_init 134 = .ok (.aload_n 0, 1) := by decide +kernel
theorem dX11_init_135 : decode cX11_init 135 = .ok (.new 83, 3) := by decide +kernel
theorem dX11_init_138 : decode cX11_init 138 = .ok (.dup, 1) := by decide +kernel
theorem dX11_init_139 : decode cX11_init 139 = .ok (.invokespecial 85, 3) := by decide +kernel
theorem dX11_init_142 : decode cX11_init 142 = .ok (.putfield 90, 3) := by decide +kernel
theorem dX11_init_145 : decode cX11_init 145 = .ok (.aload_n 0, 1) := by decide +kernel
theorem dX11_init_146 : decode cX11_init 146 = .ok (.new 93, 3) := by decide +kernel
theorem dX11_init_149 : decode cX11_init 149 = .ok (.dup, 1) := by decide +kernel
theorem dX11_init_150 : decode cX11_init 150 = .ok (.invokespecial 95, 3) := by decide +kernel
theorem dX11_init_153 : decode cX11_init 153 = .ok (.putfield 96, 3) := by decide +kernel
theorem dX11_init_156 : decode cX11_init 156 = .ok (.return_, 1) := by decide +kernel
theorem dX11_feed_0 : decode cX11_feed 0 = .ok (.aload_n 0, 1) := by decide +kernel
theorem dX11_feed_1 : decode cX11_feed 1 = .ok (.getfield 10, 3) := by decide +kernel
theorem dX11_feed_4 : decode cX11_feed 4 = .ok (.getfield 100, 3) := by decide +kernel
theorem dX11_feed_7 : decode cX11_feed 7 = .ok (.bipush 20, 2) := by decide +kernel
theorem dX11_feed_9 : decode cX11_feed 9 = .ok (.iadd, 1) := by decide +kernel
theorem dX11_feed_10 : decode cX11_feed 10 = .ok (.sipush 540, 3) := by decide +kernel
theorem dX11_feed_13 : decode cX11_feed 13 = .ok (.if_icmp .le 5, 3) := by decide +kernel
theorem dX11_feed_16 : decode cX11_feed 16 = .ok (.iconst (-1), 1) := by decide +kernel
theorem dX11_feed_17 : decode cX11_feed 17 = .ok (.ireturn, 1) := by decide +kernel
theorem dX11_feed_18 : decode cX11_feed 18 = .ok (.aload_n 0, 1) := by decide +kernel
theorem dX11_feed_19 : decode cX11_feed 19 = .ok (.getfield 10, 3) := by decide +kernel
theorem dX11_feed_22 : decode cX11_feed 22 = .ok (.iload_n 1, 1) := by decide +kernel
theorem dX11_feed_23 : decode cX11_feed 23 = .ok (.invokevirtual 103, 3) := by decide +kernel
theorem dX11_feed_26 : decode cX11_feed 26 = .ok (.aload_n 0, 1) := by decide +kernel
theorem dX11_feed_27 : decode cX11_feed 27 = .ok (.getfield 10, 3) := by decide +kernel
theorem dX11_feed_30 : decode cX11_feed 30 = .ok (.iload_n 2, 1) := by decide +kernel
theorem dX11_feed_31 : decode cX11_feed 31 = .ok (.invokevirtual 103, 3) := by decide +kernel
theorem dX11_feed_34 : decode cX11_feed 34 = .ok (.aload_n 0, 1) := by decide +kernel
theorem dX11_feed_35 : decode cX11_feed 35 = .ok (.getfield 10, 3) := by decide +kernel
theorem dX11_feed_38 : decode cX11_feed 38 = .ok (.iload_n 3, 1) := by decide +kernel
theorem dX11_feed_39 : decode cX11_feed 39 = .ok (.invokevirtual 103, 3) := by decide +kernel
theorem dX11_feed_42 : decode cX11_feed 42 = .ok (.aload_n 0, 1) := by decide +kernel
theorem dX11_feed_43 : decode cX11_feed 43 = .ok (.getfield 10, 3) := by decide +kernel
theorem dX11_feed_46 : decode cX11_feed 46 = .ok (.iload 4, 2) := by decide +kernel
theorem dX11_feed_48 : decode cX11_feed 48 = .ok (.invokevirtual 103, 3) := by decide +kernel
theorem dX11_feed_51 : decode cX11_feed 51 = .ok (.aload_n 0, 1) := by decide +kernel
theorem dX11_feed_52 : decode cX11_feed 52 = .ok (.getfield 10, 3) := by decide +kernel
theorem dX11_feed_55 : decode cX11_feed 55 = .ok (.iload 5, 2) := by decide +kernel
theorem dX11_feed_57 : decode cX11_feed 57 = .ok (.invokevirtual 103, 3) := by decide +kernel
theorem dX11_feed_60 : decode cX11_feed 60 = .ok (.aload_n 0, 1) := by decide +kernel
theorem dX11_feed_61 : decode cX11_feed 61 = .ok (.getfield 10, 3) := by decide +kernel
theorem dX11_feed_64 : decode cX11_feed 64 = .ok (.getfield 100, 3) := by decide +kernel
theorem dX11_feed_67 : decode cX11_feed 67 = .ok (.ireturn, 1) := by decide +kernel
theorem dX11_end_0 : decode cX11_end 0 = .ok (.iload_n 1, 1) := by decide +kernel
theorem dX11_end_1 : decode cX11_end 1 = .ok (.ifCond .lt 14, 3) := by decide +kernel
theorem dX11_end_4 : decode cX11_end 4 = .ok (.iload_n 1, 1) := by decide +kernel
theorem dX11_end_5 : decode cX11_end 5 = .ok (.aload_n 0, 1) := by decide +kernel
theorem dX11_end_6 : decode cX11_end 6 = .ok (.getfield 10, 3) := by decide +kernel
theorem dX11_end_9 : decode cX11_end 9 = .ok (.getfield 100, 3) := by decide +kernel
theorem dX11_end_12 : decode cX11_end 12 = .ok (.if_icmp .le 5, 3) := by decide +kernel
theorem dX11_end_15 : decode cX11_end 15 = .ok (.iconst 0, 1) := by decide +kernel
theorem dX11_end_16 : decode cX11_end 16 = .ok (.ireturn, 1) := by decide +kernel
theorem dX11_end_17 : decode cX11_end 17 = .ok (.aload_n 0, 1) := by decide +kernel
theorem dX11_end_18 : decode cX11_end 18 = .ok (.getfield 10, 3) := by decide +kernel
theorem dX11_end_21 : decode cX11_end 21 = .ok (.iload_n 1, 1) := by decide +kernel
theorem dX11_end_22 : decode cX11_end 22 = .ok (.putfield 100, 3) := by decide +kernel
theorem dX11_end_25 : decode cX11_end 25 = .ok (.iconst 1, 1) := by decide +kernel
theorem dX11_end_26 : decode cX11_end 26 = .ok (.ireturn, 1) := by decide +kernel
theorem dX11_house_0 : decode cX11_house 0 = .ok (.aload_n 0, 1) := by decide +kernel
theorem dX11_house_1 : decode cX11_house 1 = .ok (.getfield 30, 3) := by decide +kernel
theorem dX11_house_4 : decode cX11_house 4 = .ok (.aload_n 0, 1) := by decide +kernel
theorem dX11_house_5 : decode cX11_house 5 = .ok (.getfield 10, 3) := by decide +kernel
theorem dX11_house_8 : decode cX11_house 8 = .ok (.invokevirtual 107, 3) := by decide +kernel
theorem dX11_house_11 : decode cX11_house 11 = .ok (.istore_n 1, 1) := by decide +kernel
theorem dX11_house_12 : decode cX11_house 12 = .ok (.aload_n 0, 1) := by decide +kernel
theorem dX11_house_13 : decode cX11_house 13 = .ok (.getfield 10, 3) := by decide +kernel
theorem dX11_house_16 : decode cX11_house 16 = .ok (.iconst 0, 1) := by decide +kernel
theorem dX11_house_17 : decode cX11_house 17 = .ok (.putfield 100, 3) := by decide +kernel
theorem dX11_house_20 : decode cX11_house 20 = .ok (.iload_n 1, 1) := by decide +kernel
theorem dX11_house_21 : decode cX11_house 21 = .ok (.ifCond .ne 13, 3) := by decide +kernel
theorem dX11_house_24 : decode cX11_house 24 = .ok (.iconst (-1), 1) := by decide +kernel
theorem dX11_house_25 : decode cX11_house 25 = .ok (.aload_n 0, 1) := by decide +kernel
theorem dX11_house_26 : decode cX11_house 26 = .ok (.getfield 10, 3) := by decide +kernel
theorem dX11_house_29 : decode cX11_house 29 = .ok (.getfield 111, 3) := by decide +kernel
theorem dX11_house_32 : decode cX11_house 32 = .ok (.isub, 1) := by decide +kernel
theorem dX11_house_33 : decode cX11_house 33 = .ok (.ireturn, 1) := by decide +kernel
theorem dX11_house_34 : decode cX11_house 34 = .ok (.aload_n 0, 1) := by decide +kernel
theorem dX11_house_35 : decode cX11_house 35 = .ok (.getfield 19, 3) := by decide +kernel
theorem dX11_house_38 : decode cX11_house 38 = .ok (.aload_n 0, 1) := by decide +kernel
theorem dX11_house_39 : decode cX11_house 39 = .ok (.getfield 30, 3) := by decide +kernel
theorem dX11_house_42 : decode cX11_house 42 = .ok (.invokevirtual 114, 3) := by decide +kernel
theorem dX11_house_45 : decode cX11_house 45 = .ok (.aload_n 0, 1) := by decide +kernel
theorem dX11_house_46 : decode cX11_house 46 = .ok (.getfield 44, 3) := by decide +kernel
theorem dX11_house_49 : decode cX11_house 49 = .ok (.iconst 1, 1) := by decide +kernel
theorem dX11_house_50 : decode cX11_house 50 = .ok (.putfield 118, 3) := by decide +kernel
theorem dX11_house_53 : decode cX11_house 53 = .ok (.aload_n 0, 1) := by decide +kernel
theorem dX11_house_54 : decode cX11_house 54 = .ok (.getfield 30, 3) := by decide +kernel
theorem dX11_house_57 : decode cX11_house 57 = .ok (.getfield 122, 3) := by decide +kernel
theorem dX11_house_60 : decode cX11_house 60 = .ok (.ireturn, 1) := by decide +kernel
theorem dX11_fault_0 : decode cX11_fault 0 = .ok (.aload_n 0, 1) := by decide +kernel
theorem dX11_fault_1 : decode cX11_fault 1 = .ok (.getfield 10, 3) := by decide +kernel
theorem dX11_fault_4 : decode cX11_fault 4 = .ok (.getfield 125, 3) := by decide +kernel
theorem dX11_fault_7 : decode cX11_fault 7 = .ok (.ireturn, 1) := by decide +kernel
theorem dX11_cell_0 : decode cX11_cell 0 = .ok (.aload_n 0, 1) := by decide +kernel
theorem dX11_cell_1 : decode cX11_cell 1 = .ok (.getfield 19, 3) := by decide +kernel
theorem dX11_cell_4 : decode cX11_cell 4 = .ok (.getfield 128, 3) := by decide +kernel
theorem dX11_cell_7 : decode cX11_cell 7 = .ok (.iload_n 1, 1) := by decide +kernel
theorem dX11_cell_8 : decode cX11_cell 8 = .ok (.invokevirtual 131, 3) := by decide +kernel
theorem dX11_cell_11 : decode cX11_cell 11 = .ok (.ifCond .ne 5, 3) := by decide +kernel
theorem dX11_cell_14 : decode cX11_cell 14 = .ok (.iconst (-1), 1) := by decide +kernel
theorem dX11_cell_15 : decode cX11_cell 15 = .ok (.ireturn, 1) := by decide +kernel
theorem dX11_cell_16 : decode cX11_cell 16 = .ok (.aload_n 0, 1) := by decide +kernel
theorem dX11_cell_17 : decode cX11_cell 17 = .ok (.getfield 19, 3) := by decide +kernel
theorem dX11_cell_20 : decode cX11_cell 20 = .ok (.iload_n 1, 1) := by decide +kernel
theorem dX11_cell_21 : decode cX11_cell 21 = .ok (.invokevirtual 135, 3) := by decide +kernel
theorem dX11_cell_24 : decode cX11_cell 24 = .ok (.ireturn, 1) := by decide +kernel
theorem dX11_read_0 : decode cX11_read 0 = .ok (.aload_n 0, 1) := by decide +kernel
theorem dX11_read_1 : decode cX11_read 1 = .ok (.getfield 19, 3) := by decide +kernel
theorem dX11_read_4 : decode cX11_read 4 = .ok (.iload_n 1, 1) := by decide +kernel
theorem dX11_read_5 : decode cX11_read 5 = .ok (.invokevirtual 139, 3) := by decide +kernel
theorem dX11_read_8 : decode cX11_read 8 = .ok (.ifCond .eq 17, 3) := by decide +kernel
theorem dX11_read_11 : decode cX11_read 11 = .ok (.aload_n 0, 1) := by decide +kernel
theorem dX11_read_12 : decode cX11_read 12 = .ok (.getfield 19, 3) := by decide +kernel
theorem dX11_read_15 : decode cX11_read 15 = .ok (.getfield 128, 3) := by decide +kernel
theorem dX11_read_18 : decode cX11_read 18 = .ok (.iload_n 2, 1) := by decide +kernel
theorem dX11_read_19 : decode cX11_read 19 = .ok (.invokevirtual 142, 3) := by decide +kernel
theorem dX11_read_22 : decode cX11_read 22 = .ok (.ifCond .ne 5, 3) := by decide +kernel
theorem dX11_read_25 : decode cX11_read 25 = .ok (.iconst (-1), 1) := by decide +kernel
theorem dX11_read_26 : decode cX11_read 26 = .ok (.ireturn, 1) := by decide +kernel
theorem dX11_read_27 : decode cX11_read 27 = .ok (.iload_n 3, 1) := by decide +kernel
theorem dX11_read_28 : decode cX11_read 28 = .ok (.iconst 1, 1) := by decide +kernel
theorem dX11_read_29 : decode cX11_read 29 = .ok (.sipush 400, 3) := by decide +kernel
theorem dX11_read_32 : decode cX11_read 32 = .ok (.invokestatic 145, 3) := by decide +kernel
theorem dX11_read_35 : decode cX11_read 35 = .ok (.ifCond .eq 28, 3) := by decide +kernel
theorem dX11_read_38 : decode cX11_read 38 = .ok (.iload 4, 2) := by decide +kernel
theorem dX11_read_40 : decode cX11_read 40 = .ok (.iconst 1, 1) := by decide +kernel
theorem dX11_read_41 : decode cX11_read 41 = .ok (.sipush 999, 3) := by decide +kernel
theorem dX11_read_44 : decode cX11_read 44 = .ok (.invokestatic 145, 3) := by decide +kernel
theorem dX11_read_47 : decode cX11_read 47 = .ok (.ifCond .eq 16, 3) := by decide +kernel
theorem dX11_read_50 : decode cX11_read 50 = .ok (.aload_n 0, 1) := by decide +kernel
theorem dX11_read_51 : decode cX11_read 51 = .ok (.getfield 19, 3) := by decide +kernel
theorem dX11_read_54 : decode cX11_read 54 = .ok (.getfield 149, 3) := by decide +kernel
theorem dX11_read_57 : decode cX11_read 57 = .ok (.sipush 200, 3) := by decide +kernel
theorem dX11_read_60 : decode cX11_read 60 = .ok (.if_icmp .lt 5, 3) := by decide +kernel
theorem dX11_read_63 : decode cX11_read 63 = .ok (.iconst (-1), 1) := by decide +kernel
theorem dX11_read_64 : decode cX11_read 64 = .ok (.ireturn, 1) := by decide +kernel
theorem dX11_read_65 : decode cX11_read 65 = .ok (.aload_n 0, 1) := by decide +kernel
theorem dX11_read_66 : decode cX11_read 66 = .ok (.getfield 44, 3) := by decide +kernel
theorem dX11_read_69 : decode cX11_read 69 = .ok (.iconst 1, 1) := by decide +kernel
theorem dX11_read_70 : decode cX11_read 70 = .ok (.putfield 118, 3) := by decide +kernel
theorem dX11_read_73 : decode cX11_read 73 = .ok (.aload_n 0, 1) := by decide +kernel
theorem dX11_read_74 : decode cX11_read 74 = .ok (.getfield 19, 3) := by decide +kernel
theorem dX11_read_77 : decode cX11_read 77 = .ok (.iload_n 1, 1) := by decide +kernel
theorem dX11_read_78 : decode cX11_read 78 = .ok (.iload_n 2, 1) := by decide +kernel
theorem dX11_read_79 : decode cX11_read 79 = .ok (.iload_n 3, 1) := by decide +kernel
theorem dX11_read_80 : decode cX11_read 80 = .ok (.iload 4, 2) := by decide +kernel
theorem dX11_read_82 : decode cX11_read 82 = .ok (.invokevirtual 152, 3) := by decide +kernel
theorem dX11_read_85 : decode cX11_read 85 = .ok (.ireturn, 1) := by decide +kernel
theorem dX11_rest_0 : decode cX11_rest 0 = .ok (.aload_n 0, 1) := by decide +kernel
theorem dX11_rest_1 : decode cX11_rest 1 = .ok (.getfield 19, 3) := by decide +kernel
theorem dX11_rest_4 : decode cX11_rest 4 = .ok (.iload_n 1, 1) := by decide +kernel
theorem dX11_rest_5 : decode cX11_rest 5 = .ok (.invokevirtual 139, 3) := by decide +kernel
theorem dX11_rest_8 : decode cX11_rest 8 = .ok (.ifCond .eq 16, 3) := by decide +kernel
theorem dX11_rest_11 : decode cX11_rest 11 = .ok (.aload_n 0, 1) := by decide +kernel
theorem dX11_rest_12 : decode cX11_rest 12 = .ok (.getfield 19, 3) := by decide +kernel
theorem dX11_rest_15 : decode cX11_rest 15 = .ok (.getfield 156, 3) := by decide +kernel
theorem dX11_rest_18 : decode cX11_rest 18 = .ok (.sipush 200, 3) := by decide +kernel
theorem dX11_rest_21 : decode cX11_rest 21 = .ok (.if_icmp .lt 5, 3) := by decide +kernel
theorem dX11_rest_24 : decode cX11_rest 24 = .ok (.iconst (-1), 1) := by decide +kernel
theorem dX11_rest_25 : decode cX11_rest 25 = .ok (.ireturn, 1) := by decide +kernel
theorem dX11_rest_26 : decode cX11_rest 26 = .ok (.iload_n 2, 1) := by decide +kernel
theorem dX11_rest_27 : decode cX11_rest 27 = .ok (.iconst 0, 1) := by decide +kernel
theorem dX11_rest_28 : decode cX11_rest 28 = .ok (.bipush 99, 2) := by decide +kernel
theorem dX11_rest_30 : decode cX11_rest 30 = .ok (.invokestatic 145, 3) := by decide +kernel
theorem dX11_rest_33 : decode cX11_rest 33 = .ok (.ifCond .eq 25, 3) := by decide +kernel
theorem dX11_rest_36 : decode cX11_rest 36 = .ok (.iload_n 3, 1) := by decide +kernel
theorem dX11_rest_37 : decode cX11_rest 37 = .ok (.iconst 0, 1) := by decide +kernel
theorem dX11_rest_38 : decode cX11_rest 38 = .ok (.sipush 4200, 3) := by decide +kernel
theorem dX11_rest_41 : decode cX11_rest 41 = .ok (.invokestatic 145, 3) := by decide +kernel
theorem dX11_rest_44 : decode cX11_rest 44 = .ok (.ifCond .eq 14, 3) := by decide +kernel
theorem dX11_rest_47 : decode cX11_rest 47 = .ok (.iload 4, 2) := by decide +kernel
theorem dX11_rest_49 : decode cX11_rest 49 = .ok (.iconst 0, 1) := by decide +kernel
theorem dX11_rest_50 : decode cX11_rest 50 = .ok (.bipush 99, 2) := by decide +kernel
theorem dX11_rest_52 : decode cX11_rest 52 = .ok (.invokestatic 145, 3) := by decide +kernel
theorem dX11_rest_55 : decode cX11_rest 55 = .ok (.ifCond .ne 5, 3) := by decide +kernel
theorem dX11_rest_58 : decode cX11_rest 58 = .ok (.iconst (-1), 1) := by decide +kernel
theorem dX11_rest_59 : decode cX11_rest 59 = .ok (.ireturn, 1) := by decide +kernel
theorem dX11_rest_60 : decode cX11_rest 60 = .ok (.aload_n 0, 1) := by decide +kernel
theorem dX11_rest_61 : decode cX11_rest 61 = .ok (.getfield 19, 3) := by decide +kernel
theorem dX11_rest_64 : decode cX11_rest 64 = .ok (.getfield 159, 3) := by decide +kernel
theorem dX11_rest_67 : decode cX11_rest 67 = .ok (.iload_n 1, 1) := by decide +kernel
theorem dX11_rest_68 : decode cX11_rest 68 = .ok (.iaload, 1) := by decide +kernel
theorem dX11_rest_69 : decode cX11_rest 69 = .ok (.ifCond .le 18, 3) := by decide +kernel
theorem dX11_rest_72 : decode cX11_rest 72 = .ok (.iload_n 2, 1) := by decide +kernel
theorem dX11_rest_73 : decode cX11_rest 73 = .ok (.aload_n 0, 1) := by decide +kernel
theorem dX11_rest_74 : decode cX11_rest 74 = .ok (.getfield 19, 3) := by decide +kernel
theorem dX11_rest_77 : decode cX11_rest 77 = .ok (.getfield 162, 3) := by decide +kernel
theorem dX11_rest_80 : decode cX11_rest 80 = .ok (.iload_n 1, 1) := by decide +kernel
theorem dX11_rest_81 : decode cX11_rest 81 = .ok (.iaload, 1) := by decide +kernel
theorem dX11_rest_82 : decode cX11_rest 82 = .ok (.if_icmp .gt 5, 3) := by decide +kernel
theorem dX11_rest_85 : decode cX11_rest 85 = .ok (.iconst (-1), 1) := by decide +kernel
theorem dX11_rest_86 : decode cX11_rest 86 = .ok (.ireturn, 1) := by decide +kernel
theorem dX11_rest_87 : decode cX11_rest 87 = .ok (.aload_n 0, 1) := by decide +kernel
theorem dX11_rest_88 : decode cX11_rest 88 = .ok (.getfield 19, 3) := by decide +kernel
theorem dX11_rest_91 : decode cX11_rest 91 = .ok (.iload_n 1, 1) := by decide +kernel
theorem dX11_rest_92 : decode cX11_rest 92 = .ok (.iload_n 2, 1) := by decide +kernel
theorem dX11_rest_93 : decode cX11_rest 93 = .ok (.iload_n 3, 1) := by decide +kernel
theorem dX11_rest_94 : decode cX11_rest 94 = .ok (.iload 4, 2) := by decide +kernel
theorem dX11_rest_96 : decode cX11_rest 96 = .ok (.invokevirtual 165, 3) := by decide +kernel
theorem dX11_rest_99 : decode cX11_rest 99 = .ok (.ireturn, 1) := by decide +kernel
theorem dX11_lean_0 : decode cX11_lean 0 = .ok (.aload_n 0, 1) := by decide +kernel
theorem dX11_lean_1 : decode cX11_lean 1 = .ok (.getfield 19, 3) := by decide +kernel
theorem dX11_lean_4 : decode cX11_lean 4 = .ok (.getfield 128, 3) := by decide +kernel
theorem dX11_lean_7 : decode cX11_lean 7 = .ok (.iload_n 1, 1) := by decide +kernel
theorem dX11_lean_8 : decode cX11_lean 8 = .ok (.invokevirtual 142, 3) := by decide +kernel
theorem dX11_lean_11 : decode cX11_lean 11 = .ok (.ifCond .eq 12, 3) := by decide +kernel
theorem dX11_lean_14 : decode cX11_lean 14 = .ok (.iload_n 2, 1) := by decide +kernel
theorem dX11_lean_15 : decode cX11_lean 15 = .ok (.iconst 0, 1) := by decide +kernel
theorem dX11_lean_16 : decode cX11_lean 16 = .ok (.iconst 2, 1) := by decide +kernel
theorem dX11_lean_17 : decode cX11_lean 17 = .ok (.invokestatic 145, 3) := by decide +kernel
theorem dX11_lean_20 : decode cX11_lean 20 = .ok (.ifCond .ne 11, 3) := by decide +kernel
theorem dX11_lean_23 : decode cX11_lean 23 = .ok (.new 168, 3) := by decide +kernel
theorem dX11_lean_26 : decode cX11_lean 26 = .ok (.dup, 1) := by decide +kernel
theorem dX11_lean_27 : decode cX11_lean 27 = .ok (.invokespecial 170, 3) := by decide +kernel
theorem dX11_lean_30 : decode cX11_lean 30 = .ok (.athrow, 1) := by decide +kernel
theorem dX11_lean_31 : decode cX11_lean 31 = .ok (.aload_n 0, 1) := by decide +kernel
theorem dX11_lean_32 : decode cX11_lean 32 = .ok (.getfield 44, 3) := by decide +kernel
theorem dX11_lean_35 : decode cX11_lean 35 = .ok (.aload_n 0, 1) := by decide +kernel
theorem dX11_lean_36 : decode cX11_lean 36 = .ok (.getfield 19, 3) := by decide +kernel
theorem dX11_lean_39 : decode cX11_lean 39 = .ok (.invokevirtual 171, 3) := by decide +kernel
theorem dX11_lean_42 : decode cX11_lean 42 = .ok (.iload_n 2, 1) := by decide +kernel
theorem dX11_lean_43 : decode cX11_lean 43 = .ok (.iconst 2, 1) := by decide +kernel
theorem dX11_lean_44 : decode cX11_lean 44 = .ok (.if_icmp .ne 21, 3) := by decide +kernel
theorem dX11_lean_47 : decode cX11_lean 47 = .ok (.aload_n 0, 1) := by decide +kernel
theorem dX11_lean_48 : decode cX11_lean 48 = .ok (.getfield 44, 3) := by decide +kernel
theorem dX11_lean_51 : decode cX11_lean 51 = .ok (.getfield 175, 3) := by decide +kernel
theorem dX11_lean_54 : decode cX11_lean 54 = .ok (.iload_n 1, 1) := by decide +kernel
theorem dX11_lean_55 : decode cX11_lean 55 = .ok (.baload, 1) := by decide +kernel
theorem dX11_lean_56 : decode cX11_lean 56 = .ok (.ifCond .eq 7, 3) := by decide +kernel
theorem dX11_lean_59 : decode cX11_lean 59 = .ok (.iconst 1, 1) := by decide +kernel
theorem dX11_lean_60 : decode cX11_lean 60 = .ok (.goto 4, 3) := by decide +kernel
theorem dX11_lean_63 : decode cX11_lean 63 = .ok (.iconst 0, 1) := by decide +kernel
theorem dX11_lean_64 : decode cX11_lean 64 = .ok (.ireturn, 1) := by decide +kernel
theorem dX11_lean_65 : decode cX11_lean 65 = .ok (.iload_n 2, 1) := by decide +kernel
theorem dX11_lean_66 : decode cX11_lean 66 = .ok (.ifCond .ne 15, 3) := by decide +kernel
theorem dX11_lean_69 : decode cX11_lean 69 = .ok (.aload_n 0, 1) := by decide +kernel
theorem dX11_lean_70 : decode cX11_lean 70 = .ok (.getfield 44, 3) := by decide +kernel
theorem dX11_lean_73 : decode cX11_lean 73 = .ok (.getfield 179, 3) := by decide +kernel
theorem dX11_lean_76 : decode cX11_lean 76 = .ok (.iload_n 1, 1) := by decide +kernel
theorem dX11_lean_77 : decode cX11_lean 77 = .ok (.iaload, 1) := by decide +kernel
theorem dX11_lean_78 : decode cX11_lean 78 = .ok (.goto 12, 3) := by decide +kernel
theorem dX11_lean_81 : decode cX11_lean 81 = .ok (.aload_n 0, 1) := by decide +kernel
theorem dX11_lean_82 : decode cX11_lean 82 = .ok (.getfield 44, 3) := by decide +kernel
theorem dX11_lean_85 : decode cX11_lean 85 = .ok (.getfield 182, 3) := by decide +kernel
theorem dX11_lean_88 : decode cX11_lean 88 = .ok (.iload_n 1, 1) := by decide +kernel
theorem dX11_lean_89 : decode cX11_lean 89 = .ok (.iaload, 1) := by decide +kernel
theorem dX11_lean_90 : decode cX11_lean 90 = .ok (.ireturn, 1) := by decide +kernel
theorem dX11_about_0 : decode cX11_about 0 = .ok (.aload_n 0, 1) := by decide +kernel
theorem dX11_about_1 : decode cX11_about 1 = .ok (.getfield 19, 3) := by decide +kernel
theorem dX11_about_4 : decode cX11_about 4 = .ok (.iload_n 1, 1) := by decide +kernel
theorem dX11_about_5 : decode cX11_about 5 = .ok (.invokevirtual 139, 3) := by decide +kernel
theorem dX11_about_8 : decode cX11_about 8 = .ok (.ifCond .eq 12, 3) := by decide +kernel
theorem dX11_about_11 : decode cX11_about 11 = .ok (.iload_n 2, 1) := by decide +kernel
theorem dX11_about_12 : decode cX11_about 12 = .ok (.iconst 0, 1) := by decide +kernel
theorem dX11_about_13 : decode cX11_about 13 = .ok (.iconst 5, 1) := by decide +kernel
theorem dX11_about_14 : decode cX11_about 14 = .ok (.invokestatic 145, 3) := by decide +kernel
theorem dX11_about_17 : decode cX11_about 17 = .ok (.ifCond .ne 11, 3) := by decide +kernel
theorem dX11_about_20 : decode cX11_about 20 = .ok (.new 168, 3) := by decide +kernel
theorem dX11_about_23 : decode cX11_about 23 = .ok (.dup, 1) := by decide +kernel
theorem dX11_about_24 : decode cX11_about 24 = .ok (.invokespecial 170, 3) := by decide +kernel
theorem dX11_about_27 : decode cX11_about 27 = .ok (.athrow, 1) := by decide +kernel
theorem dX11_about_28 : decode cX11_about 28 = .ok (.iload_n 2, 1) := by decide +kernel
theorem dX11_about_29 : decode cX11_about 29 = .ok (.ifCond .ne 13, 3) := by decide +kernel
theorem dX11_about_32 : decode cX11_about 32 = .ok (.aload_n 0, 1) := by decide +kernel
theorem dX11_about_33 : decode cX11_about 33 = .ok (.getfield 19, 3) := by decide +kernel
theorem dX11_about_36 : decode cX11_about 36 = .ok (.getfield 185, 3) := by decide +kernel
theorem dX11_about_39 : decode cX11_about 39 = .ok (.iload_n 1, 1) := by decide +kernel
theorem dX11_about_40 : decode cX11_about 40 = .ok (.iaload, 1) := by decide +kernel
theorem dX11_about_41 : decode cX11_about 41 = .ok (.ireturn, 1) := by decide +kernel
theorem dX11_about_42 : decode cX11_about 42 = .ok (.iload_n 2, 1) := by decide +kernel
theorem dX11_about_43 : decode cX11_about 43 = .ok (.iconst 5, 1) := by decide +kernel
theorem dX11_about_44 : decode cX11_about 44 = .ok (.if_icmp .ne 16, 3) := by decide +kernel
theorem dX11_about_47 : decode cX11_about 47 = .ok (.aload_n 0, 1) := by decide +kernel
theorem dX11_about_48 : decode cX11_about 48 = .ok (.getfield 19, 3) := by decide +kernel
theorem dX11_about_51 : decode cX11_about 51 = .ok (.getfield 188, 3) := by decide +kernel
theorem dX11_about_54 : decode cX11_about 54 = .ok (.getfield 192, 3) := by decide +kernel
theorem dX11_about_57 : decode cX11_about 57 = .ok (.iload_n 1, 1) := by decide +kernel
theorem dX11_about_58 : decode cX11_about 58 = .ok (.iaload, 1) := by decide +kernel
theorem dX11_about_59 : decode cX11_about 59 = .ok (.ireturn, 1) := by decide +kernel
theorem dX11_about_60 : decode cX11_about 60 = .ok (.aload_n 0, 1) := by decide +kernel
theorem dX11_about_61 : decode cX11_about 61 = .ok (.getfield 44, 3) := by decide +kernel
theorem dX11_about_64 : decode cX11_about 64 = .ok (.aload_n 0, 1) := by decide +kernel
theorem dX11_about_65 : decode cX11_about 65 = .ok (.getfield 19, 3) := by decide +kernel
theorem dX11_about_68 : decode cX11_about 68 = .ok (.invokevirtual 171, 3) := by decide +kernel
theorem dX11_about_71 : decode cX11_about 71 = .ok (.iload_n 2, 1) := by decide +kernel
theorem dX11_about_72 : decode cX11_about 72 = .ok (.iconst 4, 1) := by decide +kernel
theorem dX11_about_73 : decode cX11_about 73 = .ok (.if_icmp .ne 14, 3) := by decide +kernel
theorem dX11_about_76 : decode cX11_about 76 = .ok (.aload_n 0, 1) := by decide +kernel
theorem dX11_about_77 : decode cX11_about 77 = .ok (.getfield 44, 3) := by decide +kernel
theorem dX11_about_80 : decode cX11_about 80 = .ok (.iload_n 1, 1) := by decide +kernel
theorem dX11_about_81 : decode cX11_about 81 = .ok (.invokevirtual 197, 3) := by decide +kernel
theorem dX11_about_84 : decode cX11_about 84 = .ok (.goto 12, 3) := by decide +kernel
theorem dX11_about_87 : decode cX11_about 87 = .ok (.aload_n 0, 1) := by decide +kernel
theorem dX11_about_88 : decode cX11_about 88 = .ok (.getfield 44, 3) := by decide +kernel
theorem dX11_about_91 : decode cX11_about 91 = .ok (.iload_n 1, 1) := by decide +kernel
theorem dX11_about_92 : decode cX11_about 92 = .ok (.iload_n 2, 1) := by decide +kernel
theorem dX11_about_93 : decode cX11_about 93 = .ok (.invokevirtual 200, 3) := by decide +kernel
theorem dX11_about_96 : decode cX11_about 96 = .ok (.ireturn, 1) := by decide +kernel
theorem dX11_again_0 : decode cX11_again 0 = .ok (.aload_n 0, 1) := by decide +kernel
theorem dX11_again_1 : decode cX11_again 1 = .ok (.getfield 44, 3) := by decide +kernel
theorem dX11_again_4 : decode cX11_again 4 = .ok (.aload_n 0, 1) := by decide +kernel
theorem dX11_again_5 : decode cX11_again 5 = .ok (.getfield 19, 3) := by decide +kernel
theorem dX11_again_8 : decode cX11_again 8 = .ok (.invokevirtual 171, 3) := by decide +kernel
theorem dX11_again_11 : decode cX11_again 11 = .ok (.aload_n 0, 1) := by decide +kernel
theorem dX11_again_12 : decode cX11_again 12 = .ok (.getfield 44, 3) := by decide +kernel
theorem dX11_again_15 : decode cX11_again 15 = .ok (.aload_n 0, 1) := by decide +kernel
theorem dX11_again_16 : decode cX11_again 16 = .ok (.getfield 19, 3) := by decide +kernel
theorem dX11_again_19 : decode cX11_again 19 = .ok (.getfield 204, 3) := by decide +kernel
theorem dX11_again_22 : decode cX11_again 22 = .ok (.invokevirtual 207, 3) := by decide +kernel
theorem dX11_again_25 : decode cX11_again 25 = .ok (.ireturn, 1) := by decide +kernel
theorem dX11_fall_0 : decode cX11_fall 0 = .ok (.aload_n 0, 1) := by decide +kernel
theorem dX11_fall_1 : decode cX11_fall 1 = .ok (.getfield 19, 3) := by decide +kernel
theorem dX11_fall_4 : decode cX11_fall 4 = .ok (.iload_n 1, 1) := by decide +kernel
theorem dX11_fall_5 : decode cX11_fall 5 = .ok (.invokevirtual 139, 3) := by decide +kernel
theorem dX11_fall_8 : decode cX11_fall 8 = .ok (.ifCond .eq 25, 3) := by decide +kernel
theorem dX11_fall_11 : decode cX11_fall 11 = .ok (.iload_n 2, 1) := by decide +kernel
theorem dX11_fall_12 : decode cX11_fall 12 = .ok (.iconst 0, 1) := by decide +kernel
theorem dX11_fall_13 : decode cX11_fall 13 = .ok (.iconst 1, 1) := by decide +kernel
theorem dX11_fall_14 : decode cX11_fall 14 = .ok (.invokestatic 145, 3) := by decide +kernel
theorem dX11_fall_17 : decode cX11_fall 17 = .ok (.ifCond .eq 16, 3) := by decide +kernel
theorem dX11_fall_20 : decode cX11_fall 20 = .ok (.aload_n 0, 1) := by decide +kernel
theorem dX11_fall_21 : decode cX11_fall 21 = .ok (.getfield 19, 3) := by decide +kernel
theorem dX11_fall_24 : decode cX11_fall 24 = .ok (.getfield 159, 3) := by decide +kernel
theorem dX11_fall_27 : decode cX11_fall 27 = .ok (.iload_n 1, 1) := by decide +kernel
theorem dX11_fall_28 : decode cX11_fall 28 = .ok (.iaload, 1) := by decide +kernel
theorem dX11_fall_29 : decode cX11_fall 29 = .ok (.iconst 2, 1) := by decide +kernel
theorem dX11_fall_30 : decode cX11_fall 30 = .ok (.if_icmp .ge 11, 3) := by decide +kernel
theorem dX11_fall_33 : decode cX11_fall 33 = .ok (.new 168, 3) := by decide +kernel
theorem dX11_fall_36 : decode cX11_fall 36 = .ok (.dup, 1) := by decide +kernel
theorem dX11_fall_37 : decode cX11_fall 37 = .ok (.invokespecial 170, 3) := by decide +kernel
theorem dX11_fall_40 : decode cX11_fall 40 = .ok (.athrow, 1) := by decide +kernel
theorem dX11_fall_41 : decode cX11_fall 41 = .ok (.aload_n 0, 1) := by decide +kernel
theorem dX11_fall_42 : decode cX11_fall 42 = .ok (.getfield 19, 3) := by decide +kernel
theorem dX11_fall_45 : decode cX11_fall 45 = .ok (.iload_n 1, 1) := by decide +kernel
theorem dX11_fall_46 : decode cX11_fall 46 = .ok (.invokevirtual 210, 3) := by decide +kernel
theorem dX11_fall_49 : decode cX11_fall 49 = .ok (.istore_n 3, 1) := by decide +kernel
theorem dX11_fall_50 : decode cX11_fall 50 = .ok (.aload_n 0, 1) := by decide +kernel
theorem dX11_fall_51 : decode cX11_fall 51 = .ok (.getfield 19, 3) := by decide +kernel
theorem dX11_fall_54 : decode cX11_fall 54 = .ok (.iload_n 1, 1) := by decide +kernel
theorem dX11_fall_55 : decode cX11_fall 55 = .ok (.invokevirtual 213, 3) := by decide +kernel
theorem dX11_fall_58 : decode cX11_fall 58 = .ok (.istore 4, 2) := by decide +kernel
theorem dX11_fall_60 : decode cX11_fall 60 = .ok (.iload_n 2, 1) := by decide +kernel
theorem dX11_fall_61 : decode cX11_fall 61 = .ok (.ifCond .ne 7, 3) := by decide +kernel
theorem dX11_fall_64 : decode cX11_fall 64 = .ok (.iload_n 3, 1) := by decide +kernel
theorem dX11_fall_65 : decode cX11_fall 65 = .ok (.goto 5, 3) := by decide +kernel
theorem dX11_fall_68 : decode cX11_fall 68 = .ok (.iload 4, 2) := by decide +kernel
theorem dX11_fall_70 : decode cX11_fall 70 = .ok (.iload_n 3, 1) := by decide +kernel
theorem dX11_fall_71 : decode cX11_fall 71 = .ok (.iload 4, 2) := by decide +kernel
theorem dX11_fall_73 : decode cX11_fall 73 = .ok (.invokestatic 216, 3) := by decide +kernel
theorem dX11_fall_76 : decode cX11_fall 76 = .ok (.invokestatic 219, 3) := by decide +kernel
theorem dX11_fall_79 : decode cX11_fall 79 = .ok (.ireturn, 1) := by decide +kernel
theorem dX11_lies_0 : decode cX11_lies 0 = .ok (.aload_n 0, 1) := by decide +kernel
theorem dX11_lies_1 : decode cX11_lies 1 = .ok (.getfield 19, 3) := by decide +kernel
theorem dX11_lies_4 : decode cX11_lies 4 = .ok (.iload_n 1, 1) := by decide +kernel
theorem dX11_lies_5 : decode cX11_lies 5 = .ok (.invokevirtual 139, 3) := by decide +kernel
theorem dX11_lies_8 : decode cX11_lies 8 = .ok (.ifCond .eq 14, 3) := by decide +kernel
theorem dX11_lies_11 : decode cX11_lies 11 = .ok (.aload_n 0, 1) := by decide +kernel
theorem dX11_lies_12 : decode cX11_lies 12 = .ok (.getfield 19, 3) := by decide +kernel
theorem dX11_lies_15 : decode cX11_lies 15 = .ok (.iload_n 1, 1) := by decide +kernel
theorem dX11_lies_16 : decode cX11_lies 16 = .ok (.invokevirtual 222, 3) := by decide +kernel
theorem dX11_lies_19 : decode cX11_lies 19 = .ok (.goto 4, 3) := by decide +kernel
theorem dX11_lies_22 : decode cX11_lies 22 = .ok (.iconst (-1), 1) := by decide +kernel
theorem dX11_lies_23 : decode cX11_lies 23 = .ok (.ireturn, 1) := by decide +kernel
theorem dX11_days_0 : decode cX11_days 0 = .ok (.iload_n 1, 1) := by decide +kernel
theorem dX11_days_1 : decode cX11_days 1 = .ok (.iconst 1, 1) := by decide +kernel
theorem dX11_days_2 : decode cX11_days 2 = .ok (.bipush 99, 2) := by decide +kernel
theorem dX11_days_4 : decode cX11_days 4 = .ok (.invokestatic 145, 3) := by decide +kernel
theorem dX11_days_7 : decode cX11_days 7 = .ok (.ifCond .ne 5, 3) := by decide +kernel
theorem dX11_days_10 : decode cX11_days 10 = .ok (.iconst (-1), 1) := by decide +kernel
theorem dX11_days_11 : decode cX11_days 11 = .ok (.ireturn, 1) := by decide +kernel
theorem dX11_days_12 : decode cX11_days 12 = .ok (.iconst 2, 1) := by decide +kernel
theorem dX11_days_13 : decode cX11_days 13 = .ok (.aload_n 0, 1) := by decide +kernel
theorem dX11_days_14 : decode cX11_days 14 = .ok (.getfield 19, 3) := by decide +kernel
theorem dX11_days_17 : decode cX11_days 17 = .ok (.getfield 128, 3) := by decide +kernel
theorem dX11_days_20 : decode cX11_days 20 = .ok (.getfield 225, 3) := by decide +kernel
theorem dX11_days_23 : decode cX11_days 23 = .ok (.iconst 5, 1) := by decide +kernel
theorem dX11_days_24 : decode cX11_days 24 = .ok (.iaload, 1) := by decide +kernel
theorem dX11_days_25 : decode cX11_days 25 = .ok (.imul, 1) := by decide +kernel
theorem dX11_days_26 : decode cX11_days 26 = .ok (.iload_n 1, 1) := by decide +kernel
theorem dX11_days_27 : decode cX11_days 27 = .ok (.invokestatic 219, 3) := by decide +kernel
theorem dX11_days_30 : decode cX11_days 30 = .ok (.iconst 1, 1) := by decide +kernel
theorem dX11_days_31 : decode cX11_days 31 = .ok (.iadd, 1) := by decide +kernel
theorem dX11_days_32 : decode cX11_days 32 = .ok (.ireturn, 1) := by decide +kernel
theorem dX11_rule_0 : decode cX11_rule 0 = .ok (.aload_n 0, 1) := by decide +kernel
theorem dX11_rule_1 : decode cX11_rule 1 = .ok (.getfield 37, 3) := by decide +kernel
theorem dX11_rule_4 : decode cX11_rule 4 = .ok (.aload_n 0, 1) := by decide +kernel
theorem dX11_rule_5 : decode cX11_rule 5 = .ok (.getfield 10, 3) := by decide +kernel
theorem dX11_rule_8 : decode cX11_rule 8 = .ok (.aload_n 0, 1) := by decide +kernel
theorem dX11_rule_9 : decode cX11_rule 9 = .ok (.getfield 19, 3) := by decide +kernel
theorem dX11_rule_12 : decode cX11_rule 12 = .ok (.getfield 128, 3) := by decide +kernel
theorem dX11_rule_15 : decode cX11_rule 15 = .ok (.invokevirtual 228, 3) := by decide +kernel
theorem dX11_rule_18 : decode cX11_rule 18 = .ok (.istore_n 1, 1) := by decide +kernel
theorem dX11_rule_19 : decode cX11_rule 19 = .ok (.aload_n 0, 1) := by decide +kernel
theorem dX11_rule_20 : decode cX11_rule 20 = .ok (.getfield 10, 3) := by decide +kernel
theorem dX11_rule_23 : decode cX11_rule 23 = .ok (.iconst 0, 1) := by decide +kernel
theorem dX11_rule_24 : decode cX11_rule 24 = .ok (.putfield 100, 3) := by decide +kernel
theorem dX11_rule_27 : decode cX11_rule 27 = .ok (.iload_n 1, 1) := by decide +kernel
theorem dX11_rule_28 : decode cX11_rule 28 = .ok (.ifCond .ne 13, 3) := by decide +kernel
theorem dX11_rule_31 : decode cX11_rule 31 = .ok (.iconst (-1), 1) := by decide +kernel
theorem dX11_rule_32 : decode cX11_rule 32 = .ok (.aload_n 0, 1) := by decide +kernel
theorem dX11_rule_33 : decode cX11_rule 33 = .ok (.getfield 10, 3) := by decide +kernel
theorem dX11_rule_36 : decode cX11_rule 36 = .ok (.getfield 111, 3) := by decide +kernel
theorem dX11_rule_39 : decode cX11_rule 39 = .ok (.isub, 1) := by decide +kernel
theorem dX11_rule_40 : decode cX11_rule 40 = .ok (.ireturn, 1) := by decide +kernel
theorem dX11_rule_41 : decode cX11_rule 41 = .ok (.aload_n 0, 1) := by decide +kernel
theorem dX11_rule_42 : decode cX11_rule 42 = .ok (.getfield 19, 3) := by decide +kernel
theorem dX11_rule_45 : decode cX11_rule 45 = .ok (.getfield 231, 3) := by decide +kernel
theorem dX11_rule_48 : decode cX11_rule 48 = .ok (.aload_n 0, 1) := by decide +kernel
theorem dX11_rule_49 : decode cX11_rule 49 = .ok (.getfield 37, 3) := by decide +kernel
theorem dX11_rule_52 : decode cX11_rule 52 = .ok (.invokevirtual 234, 3) := by decide +kernel
theorem dX11_rule_55 : decode cX11_rule 55 = .ok (.aload_n 0, 1) := by decide +kernel
theorem dX11_rule_56 : decode cX11_rule 56 = .ok (.getfield 37, 3) := by decide +kernel
theorem dX11_rule_59 : decode cX11_rule 59 = .ok (.getfield 238, 3) := by decide +kernel
theorem dX11_rule_62 : decode cX11_rule 62 = .ok (.ireturn, 1) := by decide +kernel
theorem dX11_meets_0 : decode cX11_meets 0 = .ok (.aload_n 0, 1) := by decide +kernel
theorem dX11_meets_1 : decode cX11_meets 1 = .ok (.getfield 19, 3) := by decide +kernel
theorem dX11_meets_4 : decode cX11_meets 4 = .ok (.getfield 231, 3) := by decide +kernel
theorem dX11_meets_7 : decode cX11_meets 7 = .ok (.getfield 238, 3) := by decide +kernel
theorem dX11_meets_10 : decode cX11_meets 10 = .ok (.ifCond .eq 8, 3) := by decide +kernel
theorem dX11_meets_13 : decode cX11_meets 13 = .ok (.iload_n 1, 1) := by decide +kernel
theorem dX11_meets_14 : decode cX11_meets 14 = .ok (.iconst (-1), 1) := by decide +kernel
theorem dX11_meets_15 : decode cX11_meets 15 = .ok (.if_icmp .ge 5, 3) := by decide +kernel
theorem dX11_meets_18 : decode cX11_meets 18 = .ok (.iconst (-1), 1) := by decide +kernel
theorem dX11_meets_19 : decode cX11_meets 19 = .ok (.ireturn, 1) := by decide +kernel
theorem dX11_meets_20 : decode cX11_meets 20 = .ok (.aload_n 0, 1) := by decide +kernel
theorem dX11_meets_21 : decode cX11_meets 21 = .ok (.getfield 44, 3) := by decide +kernel
theorem dX11_meets_24 : decode cX11_meets 24 = .ok (.aload_n 0, 1) := by decide +kernel
theorem dX11_meets_25 : decode cX11_meets 25 = .ok (.getfield 19, 3) := by decide +kernel
theorem dX11_meets_28 : decode cX11_meets 28 = .ok (.invokevirtual 171, 3) := by decide +kernel
theorem dX11_meets_31 : decode cX11_meets 31 = .ok (.iconst 0, 1) := by decide +kernel
theorem dX11_meets_32 : decode cX11_meets 32 = .ok (.istore_n 2, 1) := by decide +kernel
theorem dX11_meets_33 : decode cX11_meets 33 = .ok (.iconst 0, 1) := by decide +kernel
theorem dX11_meets_34 : decode cX11_meets 34 = .ok (.istore_n 3, 1) := by decide +kernel
theorem dX11_meets_35 : decode cX11_meets 35 = .ok (.iload_n 3, 1) := by decide +kernel
theorem dX11_meets_36 : decode cX11_meets 36 = .ok (.aload_n 0, 1) := by decide +kernel
theorem dX11_meets_37 : decode cX11_meets 37 = .ok (.getfield 19, 3) := by decide +kernel
theorem dX11_meets_40 : decode cX11_meets 40 = .ok (.getfield 204, 3) := by decide +kernel
theorem dX11_meets_43 : decode cX11_meets 43 = .ok (.if_icmp .ge 41, 3) := by decide +kernel
theorem dX11_meets_46 : decode cX11_meets 46 = .ok (.aload_n 0, 1) := by decide +kernel
theorem dX11_meets_47 : decode cX11_meets 47 = .ok (.getfield 19, 3) := by decide +kernel
theorem dX11_meets_50 : decode cX11_meets 50 = .ok (.getfield 231, 3) := by decide +kernel
theorem dX11_meets_53 : decode cX11_meets 53 = .ok (.aload_n 0, 1) := by decide +kernel
theorem dX11_meets_54 : decode cX11_meets 54 = .ok (.getfield 19, 3) := by decide +kernel
theorem dX11_meets_57 : decode cX11_meets 57 = .ok (.aload_n 0, 1) := by decide +kernel
theorem dX11_meets_58 : decode cX11_meets 58 = .ok (.getfield 44, 3) := by decide +kernel
theorem dX11_meets_61 : decode cX11_meets 61 = .ok (.iload_n 3, 1) := by decide +kernel
theorem dX11_meets_62 : decode cX11_meets 62 = .ok (.invokevirtual 241, 3) := by decide +kernel
theorem dX11_meets_65 : decode cX11_meets 65 = .ok (.ifCond .eq 13, 3) := by decide +kernel
theorem dX11_meets_68 : decode cX11_meets 68 = .ok (.iload_n 2, 1) := by decide +kernel
theorem dX11_meets_69 : decode cX11_meets 69 = .ok (.iload_n 1, 1) := by decide +kernel
theorem dX11_meets_70 : decode cX11_meets 70 = .ok (.if_icmp .ne 5, 3) := by decide +kernel
theorem dX11_meets_73 : decode cX11_meets 73 = .ok (.iload_n 3, 1) := by decide +kernel
theorem dX11_meets_74 : decode cX11_meets 74 = .ok (.ireturn, 1) := by decide +kernel
theorem dX11_meets_75 : decode cX11_meets 75 = .ok (.iinc 2 1, 3) := by decide +kernel
theorem dX11_meets_78 : decode cX11_meets 78 = .ok (.iinc 3 1, 3) := by decide +kernel
theorem dX11_meets_81 : decode cX11_meets 81 = .ok (.goto (-46), 3) := by decide +kernel
theorem dX11_meets_84 : decode cX11_meets 84 = .ok (.iload_n 1, 1) := by decide +kernel
theorem dX11_meets_85 : decode cX11_meets 85 = .ok (.iconst (-1), 1) := by decide +kernel
theorem dX11_meets_86 : decode cX11_meets 86 = .ok (.if_icmp .ne 7, 3) := by decide +kernel
theorem dX11_meets_89 : decode cX11_meets 89 = .ok (.iload_n 2, 1) := by decide +kernel
theorem dX11_meets_90 : decode cX11_meets 90 = .ok (.goto 4, 3) := by decide +kernel
theorem dX11_meets_93 : decode cX11_meets 93 = .ok (.iconst (-1), 1) := by decide +kernel
theorem dX11_meets_94 : decode cX11_meets 94 = .ok (.ireturn, 1) := by decide +kernel
theorem dX11_rows_0 : decode cX11_rows 0 = .ok (.aload_n 0, 1) := by decide +kernel
theorem dX11_rows_1 : decode cX11_rows 1 = .ok (.iconst 2, 1) := by decide +kernel
theorem dX11_rows_2 : decode cX11_rows 2 = .ok (.bipush 12, 2) := by decide +kernel
theorem dX11_rows_4 : decode cX11_rows 4 = .ok (.iconst 0, 1) := by decide +kernel
theorem dX11_rows_5 : decode cX11_rows 5 = .ok (.invokevirtual 245, 3) := by decide +kernel
theorem dX11_rows_8 : decode cX11_rows 8 = .ok (.istore_n 2, 1) := by decide +kernel
theorem dX11_rows_9 : decode cX11_rows 9 = .ok (.iload_n 1, 1) := by decide +kernel
theorem dX11_rows_10 : decode cX11_rows 10 = .ok (.iload_n 2, 1) := by decide +kernel
theorem dX11_rows_11 : decode cX11_rows 11 = .ok (.invokestatic 249, 3) := by decide +kernel
theorem dX11_rows_14 : decode cX11_rows 14 = .ok (.ifCond .ne 5, 3) := by decide +kernel
theorem dX11_rows_17 : decode cX11_rows 17 = .ok (.iconst (-1), 1) := by decide +kernel
theorem dX11_rows_18 : decode cX11_rows 18 = .ok (.ireturn, 1) := by decide +kernel
theorem dX11_rows_19 : decode cX11_rows 19 = .ok (.aload_n 0, 1) := by decide +kernel
theorem dX11_rows_20 : decode cX11_rows 20 = .ok (.getfield 55, 3) := by decide +kernel
theorem dX11_rows_23 : decode cX11_rows 23 = .ok (.iload_n 2, 1) := by decide +kernel
theorem dX11_rows_24 : decode cX11_rows 24 = .ok (.iload_n 1, 1) := by decide +kernel
theorem dX11_rows_25 : decode cX11_rows 25 = .ok (.invokevirtual 253, 3) := by decide +kernel
theorem dX11_rows_28 : decode cX11_rows 28 = .ok (.iconst 0, 1) := by decide +kernel
theorem dX11_rows_29 : decode cX11_rows 29 = .ok (.istore_n 3, 1) := by decide +kernel
theorem dX11_rows_30 : decode cX11_rows 30 = .ok (.iload_n 3, 1) := by decide +kernel
theorem dX11_rows_31 : decode cX11_rows 31 = .ok (.iload_n 2, 1) := by decide +kernel
theorem dX11_rows_32 : decode cX11_rows 32 = .ok (.if_icmp .ge 44, 3) := by decide +kernel
theorem dX11_rows_35 : decode cX11_rows 35 = .ok (.aload_n 0, 1) := by decide +kernel
theorem dX11_rows_36 : decode cX11_rows 36 = .ok (.getfield 55, 3) := by decide +kernel
theorem dX11_rows_39 : decode cX11_rows 39 = .ok (.iload_n 3, 1) := by decide +kernel
theorem dX11_rows_40 : decode cX11_rows 40 = .ok (.aload_n 0, 1) := by decide +kernel
theorem dX11_rows_41 : decode cX11_rows 41 = .ok (.getfield 44, 3) := by decide +kernel
theorem dX11_rows_44 : decode cX11_rows 44 = .ok (.getfield 257, 3) := by decide +kernel
theorem dX11_rows_47 : decode cX11_rows 47 = .ok (.aload_n 0, 1) := by decide +kernel
theorem dX11_rows_48 : decode cX11_rows 48 = .ok (.getfield 48, 3) := by decide +kernel
theorem dX11_rows_51 : decode cX11_rows 51 = .ok (.iload_n 3, 1) := by decide +kernel
theorem dX11_rows_52 : decode cX11_rows 52 = .ok (.iaload, 1) := by decide +kernel
theorem dX11_rows_53 : decode cX11_rows 53 = .ok (.iaload, 1) := by decide +kernel
theorem dX11_rows_54 : decode cX11_rows 54 = .ok (.aload_n 0, 1) := by decide +kernel
theorem dX11_rows_55 : decode cX11_rows 55 = .ok (.getfield 44, 3) := by decide +kernel
theorem dX11_rows_58 : decode cX11_rows 58 = .ok (.aload_n 0, 1) := by decide +kernel
theorem dX11_rows_59 : decode cX11_rows 59 = .ok (.getfield 48, 3) := by decide +kernel
theorem dX11_rows_62 : decode cX11_rows 62 = .ok (.iload_n 3, 1) := by decide +kernel
theorem dX11_rows_63 : decode cX11_rows 63 = .ok (.iaload, 1) := by decide +kernel
theorem dX11_rows_64 : decode cX11_rows 64 = .ok (.invokevirtual 197, 3) := by decide +kernel
theorem dX11_rows_67 : decode cX11_rows 67 = .ok (.invokevirtual 260, 3) := by decide +kernel
theorem dX11_rows_70 : decode cX11_rows 70 = .ok (.iinc 3 1, 3) := by decide +kernel
theorem dX11_rows_73 : decode cX11_rows 73 = .ok (.goto (-43), 3) := by decide +kernel
theorem dX11_rows_76 : decode cX11_rows 76 = .ok (.aload_n 0, 1) := by decide +kernel
theorem dX11_rows_77 : decode cX11_rows 77 = .ok (.getfield 55, 3) := by decide +kernel
theorem dX11_rows_80 : decode cX11_rows 80 = .ok (.invokevirtual 264, 3) := by decide +kernel
theorem dX11_rows_83 : decode cX11_rows 83 = .ok (.aload_n 0, 1) := by decide +kernel
theorem dX11_rows_84 : decode cX11_rows 84 = .ok (.getfield 55, 3) := by decide +kernel
theorem dX11_rows_87 : decode cX11_rows 87 = .ok (.getfield 267, 3) := by decide +kernel
theorem dX11_rows_90 : decode cX11_rows 90 = .ok (.ireturn, 1) := by decide +kernel
theorem dX11_rowAt_0 : decode cX11_rowAt 0 = .ok (.iload_n 1, 1) := by decide +kernel
theorem dX11_rowAt_1 : decode cX11_rowAt 1 = .ok (.iconst 0, 1) := by decide +kernel
theorem dX11_rowAt_2 : decode cX11_rowAt 2 = .ok (.aload_n 0, 1) := by decide +kernel
theorem dX11_rowAt_3 : decode cX11_rowAt 3 = .ok (.getfield 55, 3) := by decide +kernel
theorem dX11_rowAt_6 : decode cX11_rowAt 6 = .ok (.getfield 270, 3) := by decide +kernel
theorem dX11_rowAt_9 : decode cX11_rowAt 9 = .ok (.iconst 1, 1) := by decide +kernel
theorem dX11_rowAt_10 : decode cX11_rowAt 10 = .ok (.isub, 1) := by decide +kernel
theorem dX11_rowAt_11 : decode cX11_rowAt 11 = .ok (.invokestatic 145, 3) := by decide +kernel
theorem dX11_rowAt_14 : decode cX11_rowAt 14 = .ok (.ifCond .eq 15, 3) := by decide +kernel
theorem dX11_rowAt_17 : decode cX11_rowAt 17 = .ok (.aload_n 0, 1) := by decide +kernel
theorem dX11_rowAt_18 : decode cX11_rowAt 18 = .ok (.getfield 55, 3) := by decide +kernel
theorem dX11_rowAt_21 : decode cX11_rowAt 21 = .ok (.getfield 273, 3) := by decide +kernel
theorem dX11_rowAt_24 : decode cX11_rowAt 24 = .ok (.iload_n 1, 1) := by decide +kernel
theorem dX11_rowAt_25 : decode cX11_rowAt 25 = .ok (.iaload, 1) := by decide +kernel
theorem dX11_rowAt_26 : decode cX11_rowAt 26 = .ok (.goto 4, 3) := by decide +kernel
theorem dX11_rowAt_29 : decode cX11_rowAt 29 = .ok (.iconst (-1), 1) := by decide +kernel
theorem dX11_rowAt_30 : decode cX11_rowAt 30 = .ok (.ireturn, 1) := by decide +kernel
theorem dX11_rowsBy_0 : decode cX11_rowsBy 0 = .ok (.aload_n 0, 1) := by decide +kernel
theorem dX11_rowsBy_1 : decode cX11_rowsBy 1 = .ok (.getfield 55, 3) := by decide +kernel
theorem dX11_rowsBy_4 : decode cX11_rowsBy 4 = .ok (.getfield 270, 3) := by decide +kernel
theorem dX11_rowsBy_7 : decode cX11_rowsBy 7 = .ok (.ifCond .eq 12, 3) := by decide +kernel
theorem dX11_rowsBy_10 : decode cX11_rowsBy 10 = .ok (.iload_n 1, 1) := by decide +kernel
theorem dX11_rowsBy_11 : decode cX11_rowsBy 11 = .ok (.iconst 0, 1) := by decide +kernel
theorem dX11_rowsBy_12 : decode cX11_rowsBy 12 = .ok (.iconst 1, 1) := by decide +kernel
theorem dX11_rowsBy_13 : decode cX11_rowsBy 13 = .ok (.invokestatic 145, 3) := by decide +kernel
theorem dX11_rowsBy_16 : decode cX11_rowsBy 16 = .ok (.ifCond .ne 5, 3) := by decide +kernel
theorem dX11_rowsBy_19 : decode cX11_rowsBy 19 = .ok (.iconst (-1), 1) := by decide +kernel
theorem dX11_rowsBy_20 : decode cX11_rowsBy 20 = .ok (.ireturn, 1) := by decide +kernel
theorem dX11_rowsBy_21 : decode cX11_rowsBy 21 = .ok (.iload_n 1, 1) := by decide +kernel
theorem dX11_rowsBy_22 : decode cX11_rowsBy 22 = .ok (.ifCond .ne 13, 3) := by decide +kernel
theorem dX11_rowsBy_25 : decode cX11_rowsBy 25 = .ok (.aload_n 0, 1) := by decide +kernel
theorem dX11_rowsBy_26 : decode cX11_rowsBy 26 = .ok (.getfield 55, 3) := by decide +kernel
theorem dX11_rowsBy_29 : decode cX11_rowsBy 29 = .ok (.getfield 276, 3) := by decide +kernel
theorem dX11_rowsBy_32 : decode cX11_rowsBy 32 = .ok (.goto 10, 3) := by decide +kernel
theorem dX11_rowsBy_35 : decode cX11_rowsBy 35 = .ok (.aload_n 0, 1) := by decide +kernel
theorem dX11_rowsBy_36 : decode cX11_rowsBy 36 = .ok (.getfield 55, 3) := by decide +kernel
theorem dX11_rowsBy_39 : decode cX11_rowsBy 39 = .ok (.getfield 279, 3) := by decide +kernel
theorem dX11_rowsBy_42 : decode cX11_rowsBy 42 = .ok (.ireturn, 1) := by decide +kernel
theorem dX11_swaps_0 : decode cX11_swaps 0 = .ok (.aload_n 0, 1) := by decide +kernel
theorem dX11_swaps_1 : decode cX11_swaps 1 = .ok (.iconst 2, 1) := by decide +kernel
theorem dX11_swaps_2 : decode cX11_swaps 2 = .ok (.bipush 40, 2) := by decide +kernel
theorem dX11_swaps_4 : decode cX11_swaps 4 = .ok (.iconst 0, 1) := by decide +kernel
theorem dX11_swaps_5 : decode cX11_swaps 5 = .ok (.invokevirtual 245, 3) := by decide +kernel
theorem dX11_swaps_8 : decode cX11_swaps 8 = .ok (.istore_n 2, 1) := by decide +kernel
theorem dX11_swaps_9 : decode cX11_swaps 9 = .ok (.iload_n 1, 1) := by decide +kernel
theorem dX11_swaps_10 : decode cX11_swaps 10 = .ok (.iload_n 2, 1) := by decide +kernel
theorem dX11_swaps_11 : decode cX11_swaps 11 = .ok (.invokestatic 249, 3) := by decide +kernel
theorem dX11_swaps_14 : decode cX11_swaps 14 = .ok (.ifCond .ne 5, 3) := by decide +kernel
theorem dX11_swaps_17 : decode cX11_swaps 17 = .ok (.iconst (-1), 1) := by decide +kernel
theorem dX11_swaps_18 : decode cX11_swaps 18 = .ok (.ireturn, 1) := by decide +kernel
theorem dX11_swaps_19 : decode cX11_swaps 19 = .ok (.aload_n 0, 1) := by decide +kernel
theorem dX11_swaps_20 : decode cX11_swaps 20 = .ok (.getfield 62, 3) := by decide +kernel
theorem dX11_swaps_23 : decode cX11_swaps 23 = .ok (.iload_n 2, 1) := by decide +kernel
theorem dX11_swaps_24 : decode cX11_swaps 24 = .ok (.iload_n 1, 1) := by decide +kernel
theorem dX11_swaps_25 : decode cX11_swaps 25 = .ok (.invokevirtual 282, 3) := by decide +kernel
theorem dX11_swaps_28 : decode cX11_swaps 28 = .ok (.iconst 0, 1) := by decide +kernel
theorem dX11_swaps_29 : decode cX11_swaps 29 = .ok (.istore_n 3, 1) := by decide +kernel
theorem dX11_swaps_30 : decode cX11_swaps 30 = .ok (.iload_n 3, 1) := by decide +kernel
theorem dX11_swaps_31 : decode cX11_swaps 31 = .ok (.iload_n 2, 1) := by decide +kernel
theorem dX11_swaps_32 : decode cX11_swaps 32 = .ok (.if_icmp .ge 32, 3) := by decide +kernel
theorem dX11_swaps_35 : decode cX11_swaps 35 = .ok (.aload_n 0, 1) := by decide +kernel
theorem dX11_swaps_36 : decode cX11_swaps 36 = .ok (.getfield 62, 3) := by decide +kernel
theorem dX11_swaps_39 : decode cX11_swaps 39 = .ok (.getfield 283, 3) := by decide +kernel
theorem dX11_swaps_42 : decode cX11_swaps 42 = .ok (.iload_n 3, 1) := by decide +kernel
theorem dX11_swaps_43 : decode cX11_swaps 43 = .ok (.aload_n 0, 1) := by decide +kernel
theorem dX11_swaps_44 : decode cX11_swaps 44 = .ok (.getfield 44, 3) := by decide +kernel
theorem dX11_swaps_47 : decode cX11_swaps 47 = .ok (.getfield 257, 3) := by decide +kernel
theorem dX11_swaps_50 : decode cX11_swaps 50 = .ok (.aload_n 0, 1) := by decide +kernel
theorem dX11_swaps_51 : decode cX11_swaps 51 = .ok (.getfield 48, 3) := by decide +kernel
theorem dX11_swaps_54 : decode cX11_swaps 54 = .ok (.iload_n 3, 1) := by decide +kernel
theorem dX11_swaps_55 : decode cX11_swaps 55 = .ok (.iaload, 1) := by decide +kernel
theorem dX11_swaps_56 : decode cX11_swaps 56 = .ok (.iaload, 1) := by decide +kernel
theorem dX11_swaps_57 : decode cX11_swaps 57 = .ok (.iastore, 1) := by decide +kernel
theorem dX11_swaps_58 : decode cX11_swaps 58 = .ok (.iinc 3 1, 3) := by decide +kernel
theorem dX11_swaps_61 : decode cX11_swaps 61 = .ok (.goto (-31), 3) := by decide +kernel
theorem dX11_swaps_64 : decode cX11_swaps 64 = .ok (.aload_n 0, 1) := by decide +kernel
theorem dX11_swaps_65 : decode cX11_swaps 65 = .ok (.getfield 62, 3) := by decide +kernel
theorem dX11_swaps_68 : decode cX11_swaps 68 = .ok (.invokevirtual 284, 3) := by decide +kernel
theorem dX11_swaps_71 : decode cX11_swaps 71 = .ok (.aload_n 0, 1) := by decide +kernel
theorem dX11_swaps_72 : decode cX11_swaps 72 = .ok (.getfield 62, 3) := by decide +kernel
theorem dX11_swaps_75 : decode cX11_swaps 75 = .ok (.getfield 285, 3) := by decide +kernel
theorem dX11_swaps_78 : decode cX11_swaps 78 = .ok (.ireturn, 1) := by decide +kernel
theorem dX11_swapAt_0 : decode cX11_swapAt 0 = .ok (.iload_n 1, 1) := by decide +kernel
theorem dX11_swapAt_1 : decode cX11_swapAt 1 = .ok (.iconst 0, 1) := by decide +kernel
theorem dX11_swapAt_2 : decode cX11_swapAt 2 = .ok (.aload_n 0, 1) := by decide +kernel
theorem dX11_swapAt_3 : decode cX11_swapAt 3 = .ok (.getfield 62, 3) := by decide +kernel
theorem dX11_swapAt_6 : decode cX11_swapAt 6 = .ok (.getfield 286, 3) := by decide +kernel
theorem dX11_swapAt_9 : decode cX11_swapAt 9 = .ok (.iconst 1, 1) := by decide +kernel
theorem dX11_swapAt_10 : decode cX11_swapAt 10 = .ok (.isub, 1) := by decide +kernel
theorem dX11_swapAt_11 : decode cX11_swapAt 11 = .ok (.invokestatic 145, 3) := by decide +kernel
theorem dX11_swapAt_14 : decode cX11_swapAt 14 = .ok (.ifCond .eq 15, 3) := by decide +kernel
theorem dX11_swapAt_17 : decode cX11_swapAt 17 = .ok (.aload_n 0, 1) := by decide +kernel
theorem dX11_swapAt_18 : decode cX11_swapAt 18 = .ok (.getfield 62, 3) := by decide +kernel
theorem dX11_swapAt_21 : decode cX11_swapAt 21 = .ok (.getfield 287, 3) := by decide +kernel
theorem dX11_swapAt_24 : decode cX11_swapAt 24 = .ok (.iload_n 1, 1) := by decide +kernel
theorem dX11_swapAt_25 : decode cX11_swapAt 25 = .ok (.iaload, 1) := by decide +kernel
theorem dX11_swapAt_26 : decode cX11_swapAt 26 = .ok (.goto 4, 3) := by decide +kernel
theorem dX11_swapAt_29 : decode cX11_swapAt 29 = .ok (.iconst (-1), 1) := by decide +kernel
theorem dX11_swapAt_30 : decode cX11_swapAt 30 = .ok (.ireturn, 1) := by decide +kernel
theorem dX11_swapsBy_0 : decode cX11_swapsBy 0 = .ok (.aload_n 0, 1) := by decide +kernel
theorem dX11_swapsBy_1 : decode cX11_swapsBy 1 = .ok (.getfield 62, 3) := by decide +kernel
theorem dX11_swapsBy_4 : decode cX11_swapsBy 4 = .ok (.getfield 286, 3) := by decide +kernel
theorem dX11_swapsBy_7 : decode cX11_swapsBy 7 = .ok (.ifCond .eq 12, 3) := by decide +kernel
theorem dX11_swapsBy_10 : decode cX11_swapsBy 10 = .ok (.iload_n 1, 1) := by decide +kernel
theorem dX11_swapsBy_11 : decode cX11_swapsBy 11 = .ok (.iconst 0, 1) := by decide +kernel
theorem dX11_swapsBy_12 : decode cX11_swapsBy 12 = .ok (.iconst 2, 1) := by decide +kernel
theorem dX11_swapsBy_13 : decode cX11_swapsBy 13 = .ok (.invokestatic 145, 3) := by decide +kernel
theorem dX11_swapsBy_16 : decode cX11_swapsBy 16 = .ok (.ifCond .ne 5, 3) := by decide +kernel
theorem dX11_swapsBy_19 : decode cX11_swapsBy 19 = .ok (.iconst (-1), 1) := by decide +kernel
theorem dX11_swapsBy_20 : decode cX11_swapsBy 20 = .ok (.ireturn, 1) := by decide +kernel
theorem dX11_swapsBy_21 : decode cX11_swapsBy 21 = .ok (.iload_n 1, 1) := by decide +kernel
theorem dX11_swapsBy_22 : decode cX11_swapsBy 22 = .ok (.ifCond .ne 11, 3) := by decide +kernel
theorem dX11_swapsBy_25 : decode cX11_swapsBy 25 = .ok (.aload_n 0, 1) := by decide +kernel
theorem dX11_swapsBy_26 : decode cX11_swapsBy 26 = .ok (.getfield 62, 3) := by decide +kernel
theorem dX11_swapsBy_29 : decode cX11_swapsBy 29 = .ok (.getfield 290, 3) := by decide +kernel
theorem dX11_swapsBy_32 : decode cX11_swapsBy 32 = .ok (.ireturn, 1) := by decide +kernel
theorem dX11_swapsBy_33 : decode cX11_swapsBy 33 = .ok (.iload_n 1, 1) := by decide +kernel
theorem dX11_swapsBy_34 : decode cX11_swapsBy 34 = .ok (.iconst 1, 1) := by decide +kernel
theorem dX11_swapsBy_35 : decode cX11_swapsBy 35 = .ok (.if_icmp .ne 13, 3) := by decide +kernel
theorem dX11_swapsBy_38 : decode cX11_swapsBy 38 = .ok (.aload_n 0, 1) := by decide +kernel
theorem dX11_swapsBy_39 : decode cX11_swapsBy 39 = .ok (.getfield 62, 3) := by decide +kernel
theorem dX11_swapsBy_42 : decode cX11_swapsBy 42 = .ok (.getfield 293, 3) := by decide +kernel
theorem dX11_swapsBy_45 : decode cX11_swapsBy 45 = .ok (.goto 18, 3) := by decide +kernel
theorem dX11_swapsBy_48 : decode cX11_swapsBy 48 = .ok (.aload_n 0, 1) := by decide +kernel
theorem dX11_swapsBy_49 : decode cX11_swapsBy 49 = .ok (.getfield 62, 3) := by decide +kernel
theorem dX11_swapsBy_52 : decode cX11_swapsBy 52 = .ok (.getfield 296, 3) := by decide +kernel
theorem dX11_swapsBy_55 : decode cX11_swapsBy 55 = .ok (.aload_n 0, 1) := by decide +kernel
theorem dX11_swapsBy_56 : decode cX11_swapsBy 56 = .ok (.getfield 62, 3) := by decide +kernel
theorem dX11_swapsBy_59 : decode cX11_swapsBy 59 = .ok (.getfield 285, 3) := by decide +kernel
theorem dX11_swapsBy_62 : decode cX11_swapsBy 62 = .ok (.isub, 1) := by decide +kernel
theorem dX11_swapsBy_63 : decode cX11_swapsBy 63 = .ok (.ireturn, 1) := by decide +kernel
theorem dX11_most_0 : decode cX11_most 0 = .ok (.aload_n 0, 1) := by decide +kernel
theorem dX11_most_1 : decode cX11_most 1 = .ok (.iconst 1, 1) := by decide +kernel
theorem dX11_most_2 : decode cX11_most 2 = .ok (.bipush 60, 2) := by decide +kernel
theorem dX11_most_4 : decode cX11_most 4 = .ok (.iconst 0, 1) := by decide +kernel
theorem dX11_most_5 : decode cX11_most 5 = .ok (.invokevirtual 245, 3) := by decide +kernel
theorem dX11_most_8 : decode cX11_most 8 = .ok (.istore 4, 2) := by decide +kernel
theorem dX11_most_10 : decode cX11_most 10 = .ok (.iload 4, 2) := by decide +kernel
theorem dX11_most_12 : decode cX11_most 12 = .ok (.iconst (-1), 1) := by decide +kernel
theorem dX11_most_13 : decode cX11_most 13 = .ok (.if_icmp .eq 33, 3) := by decide +kernel
theorem dX11_most_16 : decode cX11_most 16 = .ok (.iload_n 1, 1) := by decide +kernel
theorem dX11_most_17 : decode cX11_most 17 = .ok (.iconst 1, 1) := by decide +kernel
theorem dX11_most_18 : decode cX11_most 18 = .ok (.bipush 20, 2) := by decide +kernel
theorem dX11_most_20 : decode cX11_most 20 = .ok (.invokestatic 145, 3) := by decide +kernel
theorem dX11_most_23 : decode cX11_most 23 = .ok (.ifCond .eq 23, 3) := by decide +kernel
theorem dX11_most_26 : decode cX11_most 26 = .ok (.iload_n 2, 1) := by decide +kernel
theorem dX11_most_27 : decode cX11_most 27 = .ok (.iconst 1, 1) := by decide +kernel
theorem dX11_most_28 : decode cX11_most 28 = .ok (.iconst 2, 1) := by decide +kernel
theorem dX11_most_29 : decode cX11_most 29 = .ok (.invokestatic 145, 3) := by decide +kernel
theorem dX11_most_32 : decode cX11_most 32 = .ok (.ifCond .eq 14, 3) := by decide +kernel
theorem dX11_most_35 : decode cX11_most 35 = .ok (.iload_n 3, 1) := by decide +kernel
theorem dX11_most_36 : decode cX11_most 36 = .ok (.iconst 1, 1) := by decide +kernel
theorem dX11_most_37 : decode cX11_most 37 = .ok (.sipush 800, 3) := by decide +kernel
theorem dX11_most_40 : decode cX11_most 40 = .ok (.invokestatic 145, 3) := by decide +kernel
theorem dX11_most_43 : decode cX11_most 43 = .ok (.ifCond .ne 5, 3) := by decide +kernel
theorem dX11_most_46 : decode cX11_most 46 = .ok (.iconst (-1), 1) := by decide +kernel
theorem dX11_most_47 : decode cX11_most 47 = .ok (.ireturn, 1) := by decide +kernel
theorem dX11_most_48 : decode cX11_most 48 = .ok (.iload_n 2, 1) := by decide +kernel
theorem dX11_most_49 : decode cX11_most 49 = .ok (.iconst 1, 1) := by decide +kernel
theorem dX11_most_50 : decode cX11_most 50 = .ok (.if_icmp .ne 13, 3) := by decide +kernel
theorem dX11_most_53 : decode cX11_most 53 = .ok (.aload_n 0, 1) := by decide +kernel
theorem dX11_most_54 : decode cX11_most 54 = .ok (.iload 4, 2) := by decide +kernel
theorem dX11_most_56 : decode cX11_most 56 = .ok (.iload_n 3, 1) := by decide +kernel
theorem dX11_most_57 : decode cX11_most 57 = .ok (.invokevirtual 299, 3) := by decide +kernel
theorem dX11_most_60 : decode cX11_most 60 = .ok (.goto 10, 3) := by decide +kernel
theorem dX11_most_63 : decode cX11_most 63 = .ok (.aload_n 0, 1) := by decide +kernel
theorem dX11_most_64 : decode cX11_most 64 = .ok (.iload 4, 2) := by decide +kernel
theorem dX11_most_66 : decode cX11_most 66 = .ok (.iload_n 3, 1) := by decide +kernel
theorem dX11_most_67 : decode cX11_most 67 = .ok (.invokevirtual 302, 3) := by decide +kernel
theorem dX11_most_70 : decode cX11_most 70 = .ok (.iload_n 1, 1) := by decide +kernel
theorem dX11_most_71 : decode cX11_most 71 = .ok (.invokestatic 219, 3) := by decide +kernel
theorem dX11_most_74 : decode cX11_most 74 = .ok (.ireturn, 1) := by decide +kernel
theorem dX11_share_0 : decode cX11_share 0 = .ok (.aload_n 0, 1) := by decide +kernel
theorem dX11_share_1 : decode cX11_share 1 = .ok (.getfield 10, 3) := by decide +kernel
theorem dX11_share_4 : decode cX11_share 4 = .ok (.getfield 100, 3) := by decide +kernel
theorem dX11_share_7 : decode cX11_share 7 = .ok (.istore_n 2, 1) := by decide +kernel
theorem dX11_share_8 : decode cX11_share 8 = .ok (.aload_n 0, 1) := by decide +kernel
theorem dX11_share_9 : decode cX11_share 9 = .ok (.getfield 10, 3) := by decide +kernel
theorem dX11_share_12 : decode cX11_share 12 = .ok (.iconst 0, 1) := by decide +kernel
theorem dX11_share_13 : decode cX11_share 13 = .ok (.putfield 100, 3) := by decide +kernel
theorem dX11_share_16 : decode cX11_share 16 = .ok (.iload_n 2, 1) := by decide +kernel
theorem dX11_share_17 : decode cX11_share 17 = .ok (.iconst 1, 1) := by decide +kernel
theorem dX11_share_18 : decode cX11_share 18 = .ok (.bipush 9, 2) := by decide +kernel
theorem dX11_share_20 : decode cX11_share 20 = .ok (.invokestatic 145, 3) := by decide +kernel
theorem dX11_share_23 : decode cX11_share 23 = .ok (.ifCond .eq 12, 3) := by decide +kernel
theorem dX11_share_26 : decode cX11_share 26 = .ok (.iload_n 1, 1) := by decide +kernel
theorem dX11_share_27 : decode cX11_share 27 = .ok (.iconst 1, 1) := by decide +kernel
theorem dX11_share_28 : decode cX11_share 28 = .ok (.iconst 4, 1) := by decide +kernel
theorem dX11_share_29 : decode cX11_share 29 = .ok (.invokestatic 145, 3) := by decide +kernel
theorem dX11_share_32 : decode cX11_share 32 = .ok (.ifCond .ne 5, 3) := by decide +kernel
theorem dX11_share_35 : decode cX11_share 35 = .ok (.iconst (-1), 1) := by decide +kernel
theorem dX11_share_36 : decode cX11_share 36 = .ok (.ireturn, 1) := by decide +kernel
theorem dX11_share_37 : decode cX11_share 37 = .ok (.iconst 0, 1) := by decide +kernel
theorem dX11_share_38 : decode cX11_share 38 = .ok (.istore_n 3, 1) := by decide +kernel
theorem dX11_share_39 : decode cX11_share 39 = .ok (.iload_n 3, 1) := by decide +kernel
theorem dX11_share_40 : decode cX11_share 40 = .ok (.iload_n 2, 1) := by decide +kernel
theorem dX11_share_41 : decode cX11_share 41 = .ok (.if_icmp .ge 28, 3) := by decide +kernel
theorem dX11_share_44 : decode cX11_share 44 = .ok (.aload_n 0, 1) := by decide +kernel
theorem dX11_share_45 : decode cX11_share 45 = .ok (.getfield 10, 3) := by decide +kernel
theorem dX11_share_48 : decode cX11_share 48 = .ok (.iload_n 3, 1) := by decide +kernel
theorem dX11_share_49 : decode cX11_share 49 = .ok (.invokevirtual 305, 3) := by decide +kernel
theorem dX11_share_52 : decode cX11_share 52 = .ok (.iconst 1, 1) := by decide +kernel
theorem dX11_share_53 : decode cX11_share 53 = .ok (.bipush 99, 2) := by decide +kernel
theorem dX11_share_55 : decode cX11_share 55 = .ok (.invokestatic 145, 3) := by decide +kernel
theorem dX11_share_58 : decode cX11_share 58 = .ok (.ifCond .ne 5, 3) := by decide +kernel
theorem dX11_share_61 : decode cX11_share 61 = .ok (.iconst (-1), 1) := by decide +kernel
theorem dX11_share_62 : decode cX11_share 62 = .ok (.ireturn, 1) := by decide +kernel
theorem dX11_share_63 : decode cX11_share 63 = .ok (.iinc 3 1, 3) := by decide +kernel
theorem dX11_share_66 : decode cX11_share 66 = .ok (.goto (-27), 3) := by decide +kernel
theorem dX11_share_69 : decode cX11_share 69 = .ok (.aload_n 0, 1) := by decide +kernel
theorem dX11_share_70 : decode cX11_share 70 = .ok (.getfield 69, 3) := by decide +kernel
theorem dX11_share_73 : decode cX11_share 73 = .ok (.iload_n 2, 1) := by decide +kernel
theorem dX11_share_74 : decode cX11_share 74 = .ok (.iload_n 1, 1) := by decide +kernel
theorem dX11_share_75 : decode cX11_share 75 = .ok (.invokevirtual 308, 3) := by decide +kernel
theorem dX11_share_78 : decode cX11_share 78 = .ok (.iconst 0, 1) := by decide +kernel
theorem dX11_share_79 : decode cX11_share 79 = .ok (.istore_n 3, 1) := by decide +kernel
theorem dX11_share_80 : decode cX11_share 80 = .ok (.iload_n 3, 1) := by decide +kernel
theorem dX11_share_81 : decode cX11_share 81 = .ok (.iload_n 2, 1) := by decide +kernel
theorem dX11_share_82 : decode cX11_share 82 = .ok (.if_icmp .ge 26, 3) := by decide +kernel
theorem dX11_share_85 : decode cX11_share 85 = .ok (.aload_n 0, 1) := by decide +kernel
theorem dX11_share_86 : decode cX11_share 86 = .ok (.getfield 69, 3) := by decide +kernel
theorem dX11_share_89 : decode cX11_share 89 = .ok (.getfield 309, 3) := by decide +kernel
theorem dX11_share_92 : decode cX11_share 92 = .ok (.iload_n 3, 1) := by decide +kernel
theorem dX11_share_93 : decode cX11_share 93 = .ok (.aload_n 0, 1) := by decide +kernel
theorem dX11_share_94 : decode cX11_share 94 = .ok (.getfield 10, 3) := by decide +kernel
theorem dX11_share_97 : decode cX11_share 97 = .ok (.iload_n 3, 1) := by decide +kernel
theorem dX11_share_98 : decode cX11_share 98 = .ok (.invokevirtual 305, 3) := by decide +kernel
theorem dX11_share_101 : decode cX11_share 101 = .ok (.iastore, 1) := by decide +kernel
theorem dX11_share_102 : decode cX11_share 102 = .ok (.iinc 3 1, 3) := by decide +kernel
theorem dX11_share_105 : decode cX11_share 105 = .ok (.goto (-25), 3) := by decide +kernel
theorem dX11_share_108 : decode cX11_share 108 = .ok (.aload_n 0, 1) := by decide +kernel
theorem dX11_share_109 : decode cX11_share 109 = .ok (.getfield 69, 3) := by decide +kernel
theorem dX11_share_112 : decode cX11_share 112 = .ok (.invokevirtual 312, 3) := by decide +kernel
theorem dX11_share_115 : decode cX11_share 115 = .ok (.aload_n 0, 1) := by decide +kernel
theorem dX11_share_116 : decode cX11_share 116 = .ok (.getfield 69, 3) := by decide +kernel
theorem dX11_share_119 : decode cX11_share 119 = .ok (.getfield 313, 3) := by decide +kernel
theorem dX11_share_122 : decode cX11_share 122 = .ok (.ireturn, 1) := by decide +kernel
theorem dX11_shareAt_0 : decode cX11_shareAt 0 = .ok (.iload_n 1, 1) := by decide +kernel
theorem dX11_shareAt_1 : decode cX11_shareAt 1 = .ok (.iconst 0, 1) := by decide +kernel
theorem dX11_shareAt_2 : decode cX11_shareAt 2 = .ok (.aload_n 0, 1) := by decide +kernel
theorem dX11_shareAt_3 : decode cX11_shareAt 3 = .ok (.getfield 69, 3) := by decide +kernel
theorem dX11_shareAt_6 : decode cX11_shareAt 6 = .ok (.getfield 316, 3) := by decide +kernel
theorem dX11_shareAt_9 : decode cX11_shareAt 9 = .ok (.iconst 1, 1) := by decide +kernel
theorem dX11_shareAt_10 : decode cX11_shareAt 10 = .ok (.isub, 1) := by decide +kernel
theorem dX11_shareAt_11 : decode cX11_shareAt 11 = .ok (.invokestatic 145, 3) := by decide +kernel
theorem dX11_shareAt_14 : decode cX11_shareAt 14 = .ok (.ifCond .eq 15, 3) := by decide +kernel
theorem dX11_shareAt_17 : decode cX11_shareAt 17 = .ok (.aload_n 0, 1) := by decide +kernel
theorem dX11_shareAt_18 : decode cX11_shareAt 18 = .ok (.getfield 69, 3) := by decide +kernel
theorem dX11_shareAt_21 : decode cX11_shareAt 21 = .ok (.getfield 317, 3) := by decide +kernel
theorem dX11_shareAt_24 : decode cX11_shareAt 24 = .ok (.iload_n 1, 1) := by decide +kernel
theorem dX11_shareAt_25 : decode cX11_shareAt 25 = .ok (.iaload, 1) := by decide +kernel
theorem dX11_shareAt_26 : decode cX11_shareAt 26 = .ok (.goto 4, 3) := by decide +kernel
theorem dX11_shareAt_29 : decode cX11_shareAt 29 = .ok (.iconst (-1), 1) := by decide +kernel
theorem dX11_shareAt_30 : decode cX11_shareAt 30 = .ok (.ireturn, 1) := by decide +kernel
theorem dX11_pack_0 : decode cX11_pack 0 = .ok (.aload_n 0, 1) := by decide +kernel
theorem dX11_pack_1 : decode cX11_pack 1 = .ok (.iconst 2, 1) := by decide +kernel
theorem dX11_pack_2 : decode cX11_pack 2 = .ok (.bipush 40, 2) := by decide +kernel
theorem dX11_pack_4 : decode cX11_pack 4 = .ok (.iconst 1, 1) := by decide +kernel
theorem dX11_pack_5 : decode cX11_pack 5 = .ok (.invokevirtual 245, 3) := by decide +kernel
theorem dX11_pack_8 : decode cX11_pack 8 = .ok (.istore_n 3, 1) := by decide +kernel
theorem dX11_pack_9 : decode cX11_pack 9 = .ok (.iload_n 1, 1) := by decide +kernel
theorem dX11_pack_10 : decode cX11_pack 10 = .ok (.iload_n 3, 1) := by decide +kernel
theorem dX11_pack_11 : decode cX11_pack 11 = .ok (.invokestatic 249, 3) := by decide +kernel
theorem dX11_pack_14 : decode cX11_pack 14 = .ok (.ifCond .eq 29, 3) := by decide +kernel
theorem dX11_pack_17 : decode cX11_pack 17 = .ok (.iload_n 2, 1) := by decide +kernel
theorem dX11_pack_18 : decode cX11_pack 18 = .ok (.iconst 0, 1) := by decide +kernel
theorem dX11_pack_19 : decode cX11_pack 19 = .ok (.sipush 999, 3) := by decide +kernel
theorem dX11_pack_22 : decode cX11_pack 22 = .ok (.invokestatic 145, 3) := by decide +kernel
theorem dX11_pack_25 : decode cX11_pack 25 = .ok (.ifCond .eq 18, 3) := by decide +kernel
theorem dX11_pack_28 : decode cX11_pack 28 = .ok (.aload_n 0, 1) := by decide +kernel
theorem dX11_pack_29 : decode cX11_pack 29 = .ok (.getfield 19, 3) := by decide +kernel
theorem dX11_pack_32 : decode cX11_pack 32 = .ok (.getfield 188, 3) := by decide +kernel
theorem dX11_pack_35 : decode cX11_pack 35 = .ok (.getfield 318, 3) := by decide +kernel
theorem dX11_pack_38 : decode cX11_pack 38 = .ok (.bipush 10, 2) := by decide +kernel
theorem dX11_pack_40 : decode cX11_pack 40 = .ok (.if_icmp .lt 5, 3) := by decide +kernel
theorem dX11_pack_43 : decode cX11_pack 43 = .ok (.iconst (-1), 1) := by decide +kernel
theorem dX11_pack_44 : decode cX11_pack 44 = .ok (.ireturn, 1) := by decide +kernel
theorem dX11_pack_45 : decode cX11_pack 45 = .ok (.aload_n 0, 1) := by decide +kernel
theorem dX11_pack_46 : decode cX11_pack 46 = .ok (.getfield 19, 3) := by decide +kernel
theorem dX11_pack_49 : decode cX11_pack 49 = .ok (.getfield 188, 3) := by decide +kernel
theorem dX11_pack_52 : decode cX11_pack 52 = .ok (.aload_n 0, 1) := by decide +kernel
theorem dX11_pack_53 : decode cX11_pack 53 = .ok (.getfield 48, 3) := by decide +kernel
theorem dX11_pack_56 : decode cX11_pack 56 = .ok (.iload_n 3, 1) := by decide +kernel
theorem dX11_pack_57 : decode cX11_pack 57 = .ok (.iload_n 1, 1) := by decide +kernel
theorem dX11_pack_58 : decode cX11_pack 58 = .ok (.iload_n 2, 1) := by decide +kernel
theorem dX11_pack_59 : decode cX11_pack 59 = .ok (.invokevirtual 319, 3) := by decide +kernel
theorem dX11_pack_62 : decode cX11_pack 62 = .ok (.ireturn, 1) := by decide +kernel
theorem dX11_row_0 : decode cX11_row 0 = .ok (.aload_n 0, 1) := by decide +kernel
theorem dX11_row_1 : decode cX11_row 1 = .ok (.getfield 19, 3) := by decide +kernel
theorem dX11_row_4 : decode cX11_row 4 = .ok (.getfield 188, 3) := by decide +kernel
theorem dX11_row_7 : decode cX11_row 7 = .ok (.iload_n 1, 1) := by decide +kernel
theorem dX11_row_8 : decode cX11_row 8 = .ok (.invokevirtual 323, 3) := by decide +kernel
theorem dX11_row_11 : decode cX11_row 11 = .ok (.ifCond .eq 34, 3) := by decide +kernel
theorem dX11_row_14 : decode cX11_row 14 = .ok (.iload_n 2, 1) := by decide +kernel
theorem dX11_row_15 : decode cX11_row 15 = .ok (.iconst 0, 1) := by decide +kernel
theorem dX11_row_16 : decode cX11_row 16 = .ok (.aload_n 0, 1) := by decide +kernel
theorem dX11_row_17 : decode cX11_row 17 = .ok (.getfield 19, 3) := by decide +kernel
theorem dX11_row_20 : decode cX11_row 20 = .ok (.getfield 188, 3) := by decide +kernel
theorem dX11_row_23 : decode cX11_row 23 = .ok (.getfield 326, 3) := by decide +kernel
theorem dX11_row_26 : decode cX11_row 26 = .ok (.iload_n 1, 1) := by decide +kernel
theorem dX11_row_27 : decode cX11_row 27 = .ok (.iaload, 1) := by decide +kernel
theorem dX11_row_28 : decode cX11_row 28 = .ok (.iconst 1, 1) := by decide +kernel
theorem dX11_row_29 : decode cX11_row 29 = .ok (.isub, 1) := by decide +kernel
theorem dX11_row_30 : decode cX11_row 30 = .ok (.invokestatic 145, 3) := by decide +kernel
theorem dX11_row_33 : decode cX11_row 33 = .ok (.ifCond .eq 12, 3) := by decide +kernel
theorem dX11_row_36 : decode cX11_row 36 = .ok (.iload_n 3, 1) := by decide +kernel
theorem dX11_row_37 : decode cX11_row 37 = .ok (.iconst 0, 1) := by decide +kernel
theorem dX11_row_38 : decode cX11_row 38 = .ok (.iconst 2, 1) := by decide +kernel
theorem dX11_row_39 : decode cX11_row 39 = .ok (.invokestatic 145, 3) := by decide +kernel
theorem dX11_row_42 : decode cX11_row 42 = .ok (.ifCond .ne 11, 3) := by decide +kernel
theorem dX11_row_45 : decode cX11_row 45 = .ok (.new 168, 3) := by decide +kernel
theorem dX11_row_48 : decode cX11_row 48 = .ok (.dup, 1) := by decide +kernel
theorem dX11_row_49 : decode cX11_row 49 = .ok (.invokespecial 170, 3) := by decide +kernel
theorem dX11_row_52 : decode cX11_row 52 = .ok (.athrow, 1) := by decide +kernel
theorem dX11_row_53 : decode cX11_row 53 = .ok (.aload_n 0, 1) := by decide +kernel
theorem dX11_row_54 : decode cX11_row 54 = .ok (.getfield 44, 3) := by decide +kernel
theorem dX11_row_57 : decode cX11_row 57 = .ok (.aload_n 0, 1) := by decide +kernel
theorem dX11_row_58 : decode cX11_row 58 = .ok (.getfield 19, 3) := by decide +kernel
theorem dX11_row_61 : decode cX11_row 61 = .ok (.invokevirtual 171, 3) := by decide +kernel
theorem dX11_row_64 : decode cX11_row 64 = .ok (.iload_n 3, 1) := by decide +kernel
theorem dX11_row_65 : decode cX11_row 65 = .ok (.iconst 2, 1) := by decide +kernel
theorem dX11_row_66 : decode cX11_row 66 = .ok (.if_icmp .ne 27, 3) := by decide +kernel
theorem dX11_row_69 : decode cX11_row 69 = .ok (.aload_n 0, 1) := by decide +kernel
theorem dX11_row_70 : decode cX11_row 70 = .ok (.getfield 19, 3) := by decide +kernel
theorem dX11_row_73 : decode cX11_row 73 = .ok (.getfield 188, 3) := by decide +kernel
theorem dX11_row_76 : decode cX11_row 76 = .ok (.iload_n 1, 1) := by decide +kernel
theorem dX11_row_77 : decode cX11_row 77 = .ok (.iload_n 2, 1) := by decide +kernel
theorem dX11_row_78 : decode cX11_row 78 = .ok (.aload_n 0, 1) := by decide +kernel
theorem dX11_row_79 : decode cX11_row 79 = .ok (.getfield 44, 3) := by decide +kernel
theorem dX11_row_82 : decode cX11_row 82 = .ok (.aload_n 0, 1) := by decide +kernel
theorem dX11_row_83 : decode cX11_row 83 = .ok (.getfield 19, 3) := by decide +kernel
theorem dX11_row_86 : decode cX11_row 86 = .ok (.getfield 128, 3) := by decide +kernel
theorem dX11_row_89 : decode cX11_row 89 = .ok (.invokevirtual 329, 3) := by decide +kernel
theorem dX11_row_92 : decode cX11_row 92 = .ok (.ireturn, 1) := by decide +kernel
theorem dX11_row_93 : decode cX11_row 93 = .ok (.iload_n 3, 1) := by decide +kernel
theorem dX11_row_94 : decode cX11_row 94 = .ok (.ifCond .ne 22, 3) := by decide +kernel
theorem dX11_row_97 : decode cX11_row 97 = .ok (.aload_n 0, 1) := by decide +kernel
theorem dX11_row_98 : decode cX11_row 98 = .ok (.getfield 19, 3) := by decide +kernel
theorem dX11_row_101 : decode cX11_row 101 = .ok (.getfield 188, 3) := by decide +kernel
theorem dX11_row_104 : decode cX11_row 104 = .ok (.iload_n 1, 1) := by decide +kernel
theorem dX11_row_105 : decode cX11_row 105 = .ok (.iload_n 2, 1) := by decide +kernel
theorem dX11_row_106 : decode cX11_row 106 = .ok (.aload_n 0, 1) := by decide +kernel
theorem dX11_row_107 : decode cX11_row 107 = .ok (.getfield 44, 3) := by decide +kernel
theorem dX11_row_110 : decode cX11_row 110 = .ok (.invokevirtual 333, 3) := by decide +kernel
theorem dX11_row_113 : decode cX11_row 113 = .ok (.goto 19, 3) := by decide +kernel
theorem dX11_row_116 : decode cX11_row 116 = .ok (.aload_n 0, 1) := by decide +kernel
theorem dX11_row_117 : decode cX11_row 117 = .ok (.getfield 19, 3) := by decide +kernel
theorem dX11_row_120 : decode cX11_row 120 = .ok (.getfield 188, 3) := by decide +kernel
theorem dX11_row_123 : decode cX11_row 123 = .ok (.iload_n 1, 1) := by decide +kernel
theorem dX11_row_124 : decode cX11_row 124 = .ok (.iload_n 2, 1) := by decide +kernel
theorem dX11_row_125 : decode cX11_row 125 = .ok (.aload_n 0, 1) := by decide +kernel
theorem dX11_row_126 : decode cX11_row 126 = .ok (.getfield 44, 3) := by decide +kernel
theorem dX11_row_129 : decode cX11_row 129 = .ok (.invokevirtual 337, 3) := by decide +kernel
theorem dX11_row_132 : decode cX11_row 132 = .ok (.ireturn, 1) := by decide +kernel
theorem dX11_inPack_0 : decode cX11_inPack 0 = .ok (.aload_n 0, 1) := by decide +kernel
theorem dX11_inPack_1 : decode cX11_inPack 1 = .ok (.getfield 19, 3) := by decide +kernel
theorem dX11_inPack_4 : decode cX11_inPack 4 = .ok (.getfield 188, 3) := by decide +kernel
theorem dX11_inPack_7 : decode cX11_inPack 7 = .ok (.iload_n 1, 1) := by decide +kernel
theorem dX11_inPack_8 : decode cX11_inPack 8 = .ok (.invokevirtual 323, 3) := by decide +kernel
theorem dX11_inPack_11 : decode cX11_inPack 11 = .ok (.ifCond .eq 25, 3) := by decide +kernel
theorem dX11_inPack_14 : decode cX11_inPack 14 = .ok (.iload_n 2, 1) := by decide +kernel
theorem dX11_inPack_15 : decode cX11_inPack 15 = .ok (.iconst 0, 1) := by decide +kernel
theorem dX11_inPack_16 : decode cX11_inPack 16 = .ok (.aload_n 0, 1) := by decide +kernel
theorem dX11_inPack_17 : decode cX11_inPack 17 = .ok (.getfield 19, 3) := by decide +kernel
theorem dX11_inPack_20 : decode cX11_inPack 20 = .ok (.getfield 188, 3) := by decide +kernel
theorem dX11_inPack_23 : decode cX11_inPack 23 = .ok (.getfield 339, 3) := by decide +kernel
theorem dX11_inPack_26 : decode cX11_inPack 26 = .ok (.iload_n 1, 1) := by decide +kernel
theorem dX11_inPack_27 : decode cX11_inPack 27 = .ok (.iaload, 1) := by decide +kernel
theorem dX11_inPack_28 : decode cX11_inPack 28 = .ok (.iconst 1, 1) := by decide +kernel
theorem dX11_inPack_29 : decode cX11_inPack 29 = .ok (.isub, 1) := by decide +kernel
theorem dX11_inPack_30 : decode cX11_inPack 30 = .ok (.invokestatic 145, 3) := by decide +kernel
theorem dX11_inPack_33 : decode cX11_inPack 33 = .ok (.ifCond .ne 5, 3) := by decide +kernel
theorem dX11_inPack_36 : decode cX11_inPack 36 = .ok (.iconst (-1), 1) := by decide +kernel
theorem dX11_inPack_37 : decode cX11_inPack 37 = .ok (.ireturn, 1) := by decide +kernel
theorem dX11_inPack_38 : decode cX11_inPack 38 = .ok (.aload_n 0, 1) := by decide +kernel
theorem dX11_inPack_39 : decode cX11_inPack 39 = .ok (.getfield 19, 3) := by decide +kernel
theorem dX11_inPack_42 : decode cX11_inPack 42 = .ok (.getfield 188, 3) := by decide +kernel
theorem dX11_inPack_45 : decode cX11_inPack 45 = .ok (.iload_n 1, 1) := by decide +kernel
theorem dX11_inPack_46 : decode cX11_inPack 46 = .ok (.iload_n 2, 1) := by decide +kernel
theorem dX11_inPack_47 : decode cX11_inPack 47 = .ok (.invokevirtual 341, 3) := by decide +kernel
theorem dX11_inPack_50 : decode cX11_inPack 50 = .ok (.ireturn, 1) := by decide +kernel
theorem dX11_life_0 : decode cX11_life 0 = .ok (.aload_n 0, 1) := by decide +kernel
theorem dX11_life_1 : decode cX11_life 1 = .ok (.getfield 19, 3) := by decide +kernel
theorem dX11_life_4 : decode cX11_life 4 = .ok (.getfield 188, 3) := by decide +kernel
theorem dX11_life_7 : decode cX11_life 7 = .ok (.iload_n 1, 1) := by decide +kernel
theorem dX11_life_8 : decode cX11_life 8 = .ok (.invokevirtual 323, 3) := by decide +kernel
theorem dX11_life_11 : decode cX11_life 11 = .ok (.ifCond .ne 5, 3) := by decide +kernel
theorem dX11_life_14 : decode cX11_life 14 = .ok (.iconst (-1), 1) := by decide +kernel
theorem dX11_life_15 : decode cX11_life 15 = .ok (.ireturn, 1) := by decide +kernel
theorem dX11_life_16 : decode cX11_life 16 = .ok (.aload_n 0, 1) := by decide +kernel
theorem dX11_life_17 : decode cX11_life 17 = .ok (.getfield 44, 3) := by decide +kernel
theorem dX11_life_20 : decode cX11_life 20 = .ok (.aload_n 0, 1) := by decide +kernel
theorem dX11_life_21 : decode cX11_life 21 = .ok (.getfield 19, 3) := by decide +kernel
theorem dX11_life_24 : decode cX11_life 24 = .ok (.invokevirtual 171, 3) := by decide +kernel
theorem dX11_life_27 : decode cX11_life 27 = .ok (.aload_n 0, 1) := by decide +kernel
theorem dX11_life_28 : decode cX11_life 28 = .ok (.getfield 19, 3) := by decide +kernel
theorem dX11_life_31 : decode cX11_life 31 = .ok (.getfield 188, 3) := by decide +kernel
theorem dX11_life_34 : decode cX11_life 34 = .ok (.iload_n 1, 1) := by decide +kernel
theorem dX11_life_35 : decode cX11_life 35 = .ok (.aload_n 0, 1) := by decide +kernel
theorem dX11_life_36 : decode cX11_life 36 = .ok (.getfield 19, 3) := by decide +kernel
theorem dX11_life_39 : decode cX11_life 39 = .ok (.getfield 188, 3) := by decide +kernel
theorem dX11_life_42 : decode cX11_life 42 = .ok (.iload_n 1, 1) := by decide +kernel
theorem dX11_life_43 : decode cX11_life 43 = .ok (.aload_n 0, 1) := by decide +kernel
theorem dX11_life_44 : decode cX11_life 44 = .ok (.getfield 44, 3) := by decide +kernel
theorem dX11_life_47 : decode cX11_life 47 = .ok (.aload_n 0, 1) := by decide +kernel
theorem dX11_life_48 : decode cX11_life 48 = .ok (.getfield 19, 3) := by decide +kernel
theorem dX11_life_51 : decode cX11_life 51 = .ok (.getfield 128, 3) := by decide +kernel
theorem dX11_life_54 : decode cX11_life 54 = .ok (.invokevirtual 344, 3) := by decide +kernel
theorem dX11_life_57 : decode cX11_life 57 = .ok (.aload_n 0, 1) := by decide +kernel
theorem dX11_life_58 : decode cX11_life 58 = .ok (.getfield 44, 3) := by decide +kernel
theorem dX11_life_61 : decode cX11_life 61 = .ok (.aload_n 0, 1) := by decide +kernel
theorem dX11_life_62 : decode cX11_life 62 = .ok (.getfield 19, 3) := by decide +kernel
theorem dX11_life_65 : decode cX11_life 65 = .ok (.getfield 128, 3) := by decide +kernel
theorem dX11_life_68 : decode cX11_life 68 = .ok (.invokevirtual 329, 3) := by decide +kernel
theorem dX11_life_71 : decode cX11_life 71 = .ok (.ireturn, 1) := by decide +kernel
theorem dX11_ends_0 : decode cX11_ends 0 = .ok (.aload_n 0, 1) := by decide +kernel
theorem dX11_ends_1 : decode cX11_ends 1 = .ok (.getfield 19, 3) := by decide +kernel
theorem dX11_ends_4 : decode cX11_ends 4 = .ok (.getfield 188, 3) := by decide +kernel
theorem dX11_ends_7 : decode cX11_ends 7 = .ok (.iload_n 1, 1) := by decide +kernel
theorem dX11_ends_8 : decode cX11_ends 8 = .ok (.invokevirtual 323, 3) := by decide +kernel
theorem dX11_ends_11 : decode cX11_ends 11 = .ok (.ifCond .ne 5, 3) := by decide +kernel
theorem dX11_ends_14 : decode cX11_ends 14 = .ok (.iconst (-1), 1) := by decide +kernel
theorem dX11_ends_15 : decode cX11_ends 15 = .ok (.ireturn, 1) := by decide +kernel
theorem dX11_ends_16 : decode cX11_ends 16 = .ok (.aload_n 0, 1) := by decide +kernel
theorem dX11_ends_17 : decode cX11_ends 17 = .ok (.getfield 44, 3) := by decide +kernel
theorem dX11_ends_20 : decode cX11_ends 20 = .ok (.aload_n 0, 1) := by decide +kernel
theorem dX11_ends_21 : decode cX11_ends 21 = .ok (.getfield 19, 3) := by decide +kernel
theorem dX11_ends_24 : decode cX11_ends 24 = .ok (.invokevirtual 171, 3) := by decide +kernel
theorem dX11_ends_27 : decode cX11_ends 27 = .ok (.aload_n 0, 1) := by decide +kernel
theorem dX11_ends_28 : decode cX11_ends 28 = .ok (.getfield 19, 3) := by decide +kernel
theorem dX11_ends_31 : decode cX11_ends 31 = .ok (.getfield 188, 3) := by decide +kernel
theorem dX11_ends_34 : decode cX11_ends 34 = .ok (.iload_n 1, 1) := by decide +kernel
theorem dX11_ends_35 : decode cX11_ends 35 = .ok (.aload_n 0, 1) := by decide +kernel
theorem dX11_ends_36 : decode cX11_ends 36 = .ok (.getfield 44, 3) := by decide +kernel
theorem dX11_ends_39 : decode cX11_ends 39 = .ok (.aload_n 0, 1) := by decide +kernel
theorem dX11_ends_40 : decode cX11_ends 40 = .ok (.getfield 19, 3) := by decide +kernel
theorem dX11_ends_43 : decode cX11_ends 43 = .ok (.getfield 128, 3) := by decide +kernel
theorem dX11_ends_46 : decode cX11_ends 46 = .ok (.invokevirtual 344, 3) := by decide +kernel
theorem dX11_ends_49 : decode cX11_ends 49 = .ok (.ireturn, 1) := by decide +kernel
theorem dX11_mend_0 : decode cX11_mend 0 = .ok (.aload_n 0, 1) := by decide +kernel
theorem dX11_mend_1 : decode cX11_mend 1 = .ok (.getfield 19, 3) := by decide +kernel
theorem dX11_mend_4 : decode cX11_mend 4 = .ok (.getfield 188, 3) := by decide +kernel
theorem dX11_mend_7 : decode cX11_mend 7 = .ok (.astore 5, 2) := by decide +kernel
theorem dX11_mend_9 : decode cX11_mend 9 = .ok (.aload 5, 2) := by decide +kernel
theorem dX11_mend_11 : decode cX11_mend 11 = .ok (.iload_n 1, 1) := by decide +kernel
theorem dX11_mend_12 : decode cX11_mend 12 = .ok (.invokevirtual 323, 3) := by decide +kernel
theorem dX11_mend_15 : decode cX11_mend 15 = .ok (.ifCond .eq 31, 3) := by decide +kernel
theorem dX11_mend_18 : decode cX11_mend 18 = .ok (.iload 4, 2) := by decide +kernel
theorem dX11_mend_20 : decode cX11_mend 20 = .ok (.aload 5, 2) := by decide +kernel
theorem dX11_mend_22 : decode cX11_mend 22 = .ok (.getfield 348, 3) := by decide +kernel
theorem dX11_mend_25 : decode cX11_mend 25 = .ok (.iload_n 1, 1) := by decide +kernel
theorem dX11_mend_26 : decode cX11_mend 26 = .ok (.iaload, 1) := by decide +kernel
theorem dX11_mend_27 : decode cX11_mend 27 = .ok (.sipush 999, 3) := by decide +kernel
theorem dX11_mend_30 : decode cX11_mend 30 = .ok (.invokestatic 145, 3) := by decide +kernel
theorem dX11_mend_33 : decode cX11_mend 33 = .ok (.ifCond .eq 13, 3) := by decide +kernel
theorem dX11_mend_36 : decode cX11_mend 36 = .ok (.aload 5, 2) := by decide +kernel
theorem dX11_mend_38 : decode cX11_mend 38 = .ok (.getfield 351, 3) := by decide +kernel
theorem dX11_mend_41 : decode cX11_mend 41 = .ok (.bipush 30, 2) := by decide +kernel
theorem dX11_mend_43 : decode cX11_mend 43 = .ok (.if_icmp .lt 5, 3) := by decide +kernel
theorem dX11_mend_46 : decode cX11_mend 46 = .ok (.iconst 0, 1) := by decide +kernel
theorem dX11_mend_47 : decode cX11_mend 47 = .ok (.ireturn, 1) := by decide +kernel
theorem dX11_mend_48 : decode cX11_mend 48 = .ok (.aload_n 0, 1) := by decide +kernel
theorem dX11_mend_49 : decode cX11_mend 49 = .ok (.getfield 19, 3) := by decide +kernel
theorem dX11_mend_52 : decode cX11_mend 52 = .ok (.iload_n 2, 1) := by decide +kernel
theorem dX11_mend_53 : decode cX11_mend 53 = .ok (.invokevirtual 139, 3) := by decide +kernel
theorem dX11_mend_56 : decode cX11_mend 56 = .ok (.ifCond .eq 14, 3) := by decide +kernel
theorem dX11_mend_59 : decode cX11_mend 59 = .ok (.aload 5, 2) := by decide +kernel
theorem dX11_mend_61 : decode cX11_mend 61 = .ok (.getfield 192, 3) := by decide +kernel
theorem dX11_mend_64 : decode cX11_mend 64 = .ok (.iload_n 2, 1) := by decide +kernel
theorem dX11_mend_65 : decode cX11_mend 65 = .ok (.iaload, 1) := by decide +kernel
theorem dX11_mend_66 : decode cX11_mend 66 = .ok (.iload_n 1, 1) := by decide +kernel
theorem dX11_mend_67 : decode cX11_mend 67 = .ok (.if_icmp .eq 5, 3) := by decide +kernel
theorem dX11_mend_70 : decode cX11_mend 70 = .ok (.iconst 0, 1) := by decide +kernel
theorem dX11_mend_71 : decode cX11_mend 71 = .ok (.ireturn, 1) := by decide +kernel
theorem dX11_mend_72 : decode cX11_mend 72 = .ok (.aload_n 0, 1) := by decide +kernel
theorem dX11_mend_73 : decode cX11_mend 73 = .ok (.getfield 19, 3) := by decide +kernel
theorem dX11_mend_76 : decode cX11_mend 76 = .ok (.iload_n 3, 1) := by decide +kernel
theorem dX11_mend_77 : decode cX11_mend 77 = .ok (.invokevirtual 139, 3) := by decide +kernel
theorem dX11_mend_80 : decode cX11_mend 80 = .ok (.ifCond .eq 14, 3) := by decide +kernel
theorem dX11_mend_83 : decode cX11_mend 83 = .ok (.aload 5, 2) := by decide +kernel
theorem dX11_mend_85 : decode cX11_mend 85 = .ok (.getfield 192, 3) := by decide +kernel
theorem dX11_mend_88 : decode cX11_mend 88 = .ok (.iload_n 3, 1) := by decide +kernel
theorem dX11_mend_89 : decode cX11_mend 89 = .ok (.iaload, 1) := by decide +kernel
theorem dX11_mend_90 : decode cX11_mend 90 = .ok (.iconst (-1), 1) := by decide +kernel
theorem dX11_mend_91 : decode cX11_mend 91 = .ok (.if_icmp .eq 5, 3) := by decide +kernel
theorem dX11_mend_94 : decode cX11_mend 94 = .ok (.iconst 0, 1) := by decide +kernel
theorem dX11_mend_95 : decode cX11_mend 95 = .ok (.ireturn, 1) := by decide +kernel
theorem dX11_mend_96 : decode cX11_mend 96 = .ok (.aload_n 0, 1) := by decide +kernel
theorem dX11_mend_97 : decode cX11_mend 97 = .ok (.getfield 44, 3) := by decide +kernel
theorem dX11_mend_100 : decode cX11_mend 100 = .ok (.aload_n 0, 1) := by decide +kernel
theorem dX11_mend_101 : decode cX11_mend 101 = .ok (.getfield 19, 3) := by decide +kernel
theorem dX11_mend_104 : decode cX11_mend 104 = .ok (.invokevirtual 171, 3) := by decide +kernel
theorem dX11_mend_107 : decode cX11_mend 107 = .ok (.aload_n 0, 1) := by decide +kernel
theorem dX11_mend_108 : decode cX11_mend 108 = .ok (.getfield 44, 3) := by decide +kernel
theorem dX11_mend_111 : decode cX11_mend 111 = .ok (.iload_n 3, 1) := by decide +kernel
theorem dX11_mend_112 : decode cX11_mend 112 = .ok (.invokevirtual 354, 3) := by decide +kernel
theorem dX11_mend_115 : decode cX11_mend 115 = .ok (.ifCond .eq 20, 3) := by decide +kernel
theorem dX11_mend_118 : decode cX11_mend 118 = .ok (.aload 5, 2) := by decide +kernel
theorem dX11_mend_120 : decode cX11_mend 120 = .ok (.iload_n 1, 1) := by decide +kernel
theorem dX11_mend_121 : decode cX11_mend 121 = .ok (.iload_n 2, 1) := by decide +kernel
theorem dX11_mend_122 : decode cX11_mend 122 = .ok (.iload_n 3, 1) := by decide +kernel
theorem dX11_mend_123 : decode cX11_mend 123 = .ok (.iload 4, 2) := by decide +kernel
theorem dX11_mend_125 : decode cX11_mend 125 = .ok (.invokevirtual 355, 3) := by decide +kernel
theorem dX11_mend_128 : decode cX11_mend 128 = .ok (.ifCond .eq 7, 3) := by decide +kernel
theorem dX11_mend_131 : decode cX11_mend 131 = .ok (.iconst 1, 1) := by decide +kernel
theorem dX11_mend_132 : decode cX11_mend 132 = .ok (.goto 4, 3) := by decide +kernel
theorem dX11_mend_135 : decode cX11_mend 135 = .ok (.iconst 0, 1) := by decide +kernel
theorem dX11_mend_136 : decode cX11_mend 136 = .ok (.ireturn, 1) := by decide +kernel
theorem dX11_bestMend_0 : decode cX11_bestMend 0 = .ok (.aload_n 0, 1) := by decide +kernel
theorem dX11_bestMend_1 : decode cX11_bestMend 1 = .ok (.iconst 1, 1) := by decide +kernel
theorem dX11_bestMend_2 : decode cX11_bestMend 2 = .ok (.bipush 10, 2) := by decide +kernel
theorem dX11_bestMend_4 : decode cX11_bestMend 4 = .ok (.iconst 1, 1) := by decide +kernel
theorem dX11_bestMend_5 : decode cX11_bestMend 5 = .ok (.invokevirtual 245, 3) := by decide +kernel
theorem dX11_bestMend_8 : decode cX11_bestMend 8 = .ok (.istore_n 2, 1) := by decide +kernel
theorem dX11_bestMend_9 : decode cX11_bestMend 9 = .ok (.iload_n 2, 1) := by decide +kernel
theorem dX11_bestMend_10 : decode cX11_bestMend 10 = .ok (.iconst (-1), 1) := by decide +kernel
theorem dX11_bestMend_11 : decode cX11_bestMend 11 = .ok (.if_icmp .eq 17, 3) := by decide +kernel
theorem dX11_bestMend_14 : decode cX11_bestMend 14 = .ok (.aload_n 0, 1) := by decide +kernel
theorem dX11_bestMend_15 : decode cX11_bestMend 15 = .ok (.getfield 19, 3) := by decide +kernel
theorem dX11_bestMend_18 : decode cX11_bestMend 18 = .ok (.getfield 188, 3) := by decide +kernel
theorem dX11_bestMend_21 : decode cX11_bestMend 21 = .ok (.iload_n 1, 1) := by decide +kernel
theorem dX11_bestMend_22 : decode cX11_bestMend 22 = .ok (.invokevirtual 323, 3) := by decide +kernel
theorem dX11_bestMend_25 : decode cX11_bestMend 25 = .ok (.ifCond .ne 5, 3) := by decide +kernel
theorem dX11_bestMend_28 : decode cX11_bestMend 28 = .ok (.iconst (-1), 1) := by decide +kernel
theorem dX11_bestMend_29 : decode cX11_bestMend 29 = .ok (.ireturn, 1) := by decide +kernel
theorem dX11_bestMend_30 : decode cX11_bestMend 30 = .ok (.aload_n 0, 1) := by decide +kernel
theorem dX11_bestMend_31 : decode cX11_bestMend 31 = .ok (.getfield 19, 3) := by decide +kernel
theorem dX11_bestMend_34 : decode cX11_bestMend 34 = .ok (.getfield 188, 3) := by decide +kernel
theorem dX11_bestMend_37 : decode cX11_bestMend 37 = .ok (.iload_n 1, 1) := by decide +kernel
theorem dX11_bestMend_38 : decode cX11_bestMend 38 = .ok (.aload_n 0, 1) := by decide +kernel
theorem dX11_bestMend_39 : decode cX11_bestMend 39 = .ok (.getfield 48, 3) := by decide +kernel
theorem dX11_bestMend_42 : decode cX11_bestMend 42 = .ok (.iload_n 2, 1) := by decide +kernel
theorem dX11_bestMend_43 : decode cX11_bestMend 43 = .ok (.aload_n 0, 1) := by decide +kernel
theorem dX11_bestMend_44 : decode cX11_bestMend 44 = .ok (.getfield 44, 3) := by decide +kernel
theorem dX11_bestMend_47 : decode cX11_bestMend 47 = .ok (.aload_n 0, 1) := by decide +kernel
theorem dX11_bestMend_48 : decode cX11_bestMend 48 = .ok (.getfield 19, 3) := by decide +kernel
theorem dX11_bestMend_51 : decode cX11_bestMend 51 = .ok (.getfield 128, 3) := by decide +kernel
theorem dX11_bestMend_54 : decode cX11_bestMend 54 = .ok (.invokevirtual 359, 3) := by decide +kernel
theorem dX11_bestMend_57 : decode cX11_bestMend 57 = .ok (.istore_n 3, 1) := by decide +kernel
theorem dX11_bestMend_58 : decode cX11_bestMend 58 = .ok (.aload_n 0, 1) := by decide +kernel
theorem dX11_bestMend_59 : decode cX11_bestMend 59 = .ok (.iload_n 3, 1) := by decide +kernel
theorem dX11_bestMend_60 : decode cX11_bestMend 60 = .ok (.bipush 8, 2) := by decide +kernel
theorem dX11_bestMend_62 : decode cX11_bestMend 62 = .ok (.ishr, 1) := by decide +kernel
theorem dX11_bestMend_63 : decode cX11_bestMend 63 = .ok (.putfield 73, 3) := by decide +kernel
theorem dX11_bestMend_66 : decode cX11_bestMend 66 = .ok (.aload_n 0, 1) := by decide +kernel
theorem dX11_bestMend_67 : decode cX11_bestMend 67 = .ok (.iload_n 3, 1) := by decide +kernel
theorem dX11_bestMend_68 : decode cX11_bestMend 68 = .ok (.sipush 255, 3) := by decide +kernel
theorem dX11_bestMend_71 : decode cX11_bestMend 71 = .ok (.iand, 1) := by decide +kernel
theorem dX11_bestMend_72 : decode cX11_bestMend 72 = .ok (.putfield 77, 3) := by decide +kernel
theorem dX11_bestMend_75 : decode cX11_bestMend 75 = .ok (.aload_n 0, 1) := by decide +kernel
theorem dX11_bestMend_76 : decode cX11_bestMend 76 = .ok (.getfield 19, 3) := by decide +kernel
theorem dX11_bestMend_79 : decode cX11_bestMend 79 = .ok (.getfield 188, 3) := by decide +kernel
theorem dX11_bestMend_82 : decode cX11_bestMend 82 = .ok (.getfield 363, 3) := by decide +kernel
theorem dX11_bestMend_85 : decode cX11_bestMend 85 = .ok (.ireturn, 1) := by decide +kernel
theorem dX11_bestBy_0 : decode cX11_bestBy 0 = .ok (.iload_n 1, 1) := by decide +kernel
theorem dX11_bestBy_1 : decode cX11_bestBy 1 = .ok (.ifCond .ne 8, 3) := by decide +kernel
theorem dX11_bestBy_4 : decode cX11_bestBy 4 = .ok (.aload_n 0, 1) := by decide +kernel
theorem dX11_bestBy_5 : decode cX11_bestBy 5 = .ok (.getfield 73, 3) := by decide +kernel
theorem dX11_bestBy_8 : decode cX11_bestBy 8 = .ok (.ireturn, 1) := by decide +kernel
theorem dX11_bestBy_9 : decode cX11_bestBy 9 = .ok (.iload_n 1, 1) := by decide +kernel
theorem dX11_bestBy_10 : decode cX11_bestBy 10 = .ok (.iconst 1, 1) := by decide +kernel
theorem dX11_bestBy_11 : decode cX11_bestBy 11 = .ok (.if_icmp .ne 10, 3) := by decide +kernel
theorem dX11_bestBy_14 : decode cX11_bestBy 14 = .ok (.aload_n 0, 1) := by decide +kernel
theorem dX11_bestBy_15 : decode cX11_bestBy 15 = .ok (.getfield 77, 3) := by decide +kernel
theorem dX11_bestBy_18 : decode cX11_bestBy 18 = .ok (.goto 4, 3) := by decide +kernel
theorem dX11_bestBy_21 : decode cX11_bestBy 21 = .ok (.iconst (-1), 1) := by decide +kernel
theorem dX11_bestBy_22 : decode cX11_bestBy 22 = .ok (.ireturn, 1) := by decide +kernel
theorem dX11_balance_0 : decode cX11_balance 0 = .ok (.aload_n 0, 1) := by decide +kernel
theorem dX11_balance_1 : decode cX11_balance 1 = .ok (.getfield 10, 3) := by decide +kernel
theorem dX11_balance_4 : decode cX11_balance 4 = .ok (.getfield 100, 3) := by decide +kernel
theorem dX11_balance_7 : decode cX11_balance 7 = .ok (.istore_n 2, 1) := by decide +kernel
theorem dX11_balance_8 : decode cX11_balance 8 = .ok (.aload_n 0, 1) := by decide +kernel
theorem dX11_balance_9 : decode cX11_balance 9 = .ok (.getfield 10, 3) := by decide +kernel
theorem dX11_balance_12 : decode cX11_balance 12 = .ok (.iconst 0, 1) := by decide +kernel
theorem dX11_balance_13 : decode cX11_balance 13 = .ok (.putfield 100, 3) := by decide +kernel
theorem dX11_balance_16 : decode cX11_balance 16 = .ok (.aload_n 0, 1) := by decide +kernel
theorem dX11_balance_17 : decode cX11_balance 17 = .ok (.getfield 19, 3) := by decide +kernel
theorem dX11_balance_20 : decode cX11_balance 20 = .ok (.getfield 188, 3) := by decide +kernel
theorem dX11_balance_23 : decode cX11_balance 23 = .ok (.iload_n 1, 1) := by decide +kernel
theorem dX11_balance_24 : decode cX11_balance 24 = .ok (.invokevirtual 323, 3) := by decide +kernel
theorem dX11_balance_27 : decode cX11_balance 27 = .ok (.ifCond .eq 19, 3) := by decide +kernel
theorem dX11_balance_30 : decode cX11_balance 30 = .ok (.iload_n 2, 1) := by decide +kernel
theorem dX11_balance_31 : decode cX11_balance 31 = .ok (.aload_n 0, 1) := by decide +kernel
theorem dX11_balance_32 : decode cX11_balance 32 = .ok (.getfield 19, 3) := by decide +kernel
theorem dX11_balance_35 : decode cX11_balance 35 = .ok (.getfield 188, 3) := by decide +kernel
theorem dX11_balance_38 : decode cX11_balance 38 = .ok (.getfield 326, 3) := by decide +kernel
theorem dX11_balance_41 : decode cX11_balance 41 = .ok (.iload_n 1, 1) := by decide +kernel
theorem dX11_balance_42 : decode cX11_balance 42 = .ok (.iaload, 1) := by decide +kernel
theorem dX11_balance_43 : decode cX11_balance 43 = .ok (.if_icmp .eq 5, 3) := by decide +kernel
theorem dX11_balance_46 : decode cX11_balance 46 = .ok (.iconst (-1), 1) := by decide +kernel
theorem dX11_balance_47 : decode cX11_balance 47 = .ok (.ireturn, 1) := by decide +kernel
theorem dX11_balance_48 : decode cX11_balance 48 = .ok (.iconst 0, 1) := by decide +kernel
theorem dX11_balance_49 : decode cX11_balance 49 = .ok (.istore_n 3, 1) := by decide +kernel
theorem dX11_balance_50 : decode cX11_balance 50 = .ok (.iload_n 3, 1) := by decide +kernel
theorem dX11_balance_51 : decode cX11_balance 51 = .ok (.iload_n 2, 1) := by decide +kernel
theorem dX11_balance_52 : decode cX11_balance 52 = .ok (.if_icmp .ge 28, 3) := by decide +kernel
theorem dX11_balance_55 : decode cX11_balance 55 = .ok (.aload_n 0, 1) := by decide +kernel
theorem dX11_balance_56 : decode cX11_balance 56 = .ok (.getfield 10, 3) := by decide +kernel
theorem dX11_balance_59 : decode cX11_balance 59 = .ok (.iload_n 3, 1) := by decide +kernel
theorem dX11_balance_60 : decode cX11_balance 60 = .ok (.invokevirtual 305, 3) := by decide +kernel
theorem dX11_balance_63 : decode cX11_balance 63 = .ok (.iconst 0, 1) := by decide +kernel
theorem dX11_balance_64 : decode cX11_balance 64 = .ok (.bipush 100, 2) := by decide +kernel
theorem dX11_balance_66 : decode cX11_balance 66 = .ok (.invokestatic 145, 3) := by decide +kernel
theorem dX11_balance_69 : decode cX11_balance 69 = .ok (.ifCond .ne 5, 3) := by decide +kernel
theorem dX11_balance_72 : decode cX11_balance 72 = .ok (.iconst (-1), 1) := by decide +kernel
theorem dX11_balance_73 : decode cX11_balance 73 = .ok (.ireturn, 1) := by decide +kernel
theorem dX11_balance_74 : decode cX11_balance 74 = .ok (.iinc 3 1, 3) := by decide +kernel
theorem dX11_balance_77 : decode cX11_balance 77 = .ok (.goto (-27), 3) := by decide +kernel
theorem dX11_balance_80 : decode cX11_balance 80 = .ok (.aload_n 0, 1) := by decide +kernel
theorem dX11_balance_81 : decode cX11_balance 81 = .ok (.getfield 44, 3) := by decide +kernel
theorem dX11_balance_84 : decode cX11_balance 84 = .ok (.aload_n 0, 1) := by decide +kernel
theorem dX11_balance_85 : decode cX11_balance 85 = .ok (.getfield 19, 3) := by decide +kernel
theorem dX11_balance_88 : decode cX11_balance 88 = .ok (.invokevirtual 171, 3) := by decide +kernel
theorem dX11_balance_91 : decode cX11_balance 91 = .ok (.aload_n 0, 1) := by decide +kernel
theorem dX11_balance_92 : decode cX11_balance 92 = .ok (.iload_n 1, 1) := by decide +kernel
theorem dX11_balance_93 : decode cX11_balance 93 = .ok (.iload_n 2, 1) := by decide +kernel
theorem dX11_balance_94 : decode cX11_balance 94 = .ok (.invokevirtual 366, 3) := by decide +kernel
theorem dX11_balance_97 : decode cX11_balance 97 = .ok (.ireturn, 1) := by decide +kernel
theorem dX11_lost_0 : decode cX11_lost 0 = .ok (.aload_n 0, 1) := by decide +kernel
theorem dX11_lost_1 : decode cX11_lost 1 = .ok (.getfield 80, 3) := by decide +kernel
theorem dX11_lost_4 : decode cX11_lost 4 = .ok (.ireturn, 1) := by decide +kernel
theorem dX11_shorted_0 : decode cX11_shorted 0 = .ok (.aload_n 0, 1) := by decide +kernel
theorem dX11_shorted_1 : decode cX11_shorted 1 = .ok (.getfield 19, 3) := by decide +kernel
theorem dX11_shorted_4 : decode cX11_shorted 4 = .ok (.iload_n 1, 1) := by decide +kernel
theorem dX11_shorted_5 : decode cX11_shorted 5 = .ok (.invokevirtual 139, 3) := by decide +kernel
theorem dX11_shorted_8 : decode cX11_shorted 8 = .ok (.ifCond .eq 19, 3) := by decide +kernel
theorem dX11_shorted_11 : decode cX11_shorted 11 = .ok (.aload_n 0, 1) := by decide +kernel
theorem dX11_shorted_12 : decode cX11_shorted 12 = .ok (.getfield 19, 3) := by decide +kernel
theorem dX11_shorted_15 : decode cX11_shorted 15 = .ok (.getfield 188, 3) := by decide +kernel
theorem dX11_shorted_18 : decode cX11_shorted 18 = .ok (.getfield 192, 3) := by decide +kernel
theorem dX11_shorted_21 : decode cX11_shorted 21 = .ok (.iload_n 1, 1) := by decide +kernel
theorem dX11_shorted_22 : decode cX11_shorted 22 = .ok (.iaload, 1) := by decide +kernel
theorem dX11_shorted_23 : decode cX11_shorted 23 = .ok (.iconst (-1), 1) := by decide +kernel
theorem dX11_shorted_24 : decode cX11_shorted 24 = .ok (.if_icmp .ne 5, 3) := by decide +kernel
theorem dX11_shorted_27 : decode cX11_shorted 27 = .ok (.iconst (-1), 1) := by decide +kernel
theorem dX11_shorted_28 : decode cX11_shorted 28 = .ok (.ireturn, 1) := by decide +kernel
theorem dX11_shorted_29 : decode cX11_shorted 29 = .ok (.aload_n 0, 1) := by decide +kernel
theorem dX11_shorted_30 : decode cX11_shorted 30 = .ok (.getfield 44, 3) := by decide +kernel
theorem dX11_shorted_33 : decode cX11_shorted 33 = .ok (.aload_n 0, 1) := by decide +kernel
theorem dX11_shorted_34 : decode cX11_shorted 34 = .ok (.getfield 19, 3) := by decide +kernel
theorem dX11_shorted_37 : decode cX11_shorted 37 = .ok (.invokevirtual 171, 3) := by decide +kernel
theorem dX11_shorted_40 : decode cX11_shorted 40 = .ok (.aload_n 0, 1) := by decide +kernel
theorem dX11_shorted_41 : decode cX11_shorted 41 = .ok (.getfield 19, 3) := by decide +kernel
theorem dX11_shorted_44 : decode cX11_shorted 44 = .ok (.getfield 188, 3) := by decide +kernel
theorem dX11_shorted_47 : decode cX11_shorted 47 = .ok (.iload_n 1, 1) := by decide +kernel
theorem dX11_shorted_48 : decode cX11_shorted 48 = .ok (.aload_n 0, 1) := by decide +kernel
theorem dX11_shorted_49 : decode cX11_shorted 49 = .ok (.getfield 44, 3) := by decide +kernel
theorem dX11_shorted_52 : decode cX11_shorted 52 = .ok (.aload_n 0, 1) := by decide +kernel
theorem dX11_shorted_53 : decode cX11_shorted 53 = .ok (.getfield 19, 3) := by decide +kernel
theorem dX11_shorted_56 : decode cX11_shorted 56 = .ok (.getfield 128, 3) := by decide +kernel
theorem dX11_shorted_59 : decode cX11_shorted 59 = .ok (.getfield 225, 3) := by decide +kernel
theorem dX11_shorted_62 : decode cX11_shorted 62 = .ok (.iconst 4, 1) := by decide +kernel
theorem dX11_shorted_63 : decode cX11_shorted 63 = .ok (.iaload, 1) := by decide +kernel
theorem dX11_shorted_64 : decode cX11_shorted 64 = .ok (.invokevirtual 369, 3) := by decide +kernel
theorem dX11_shorted_67 : decode cX11_shorted 67 = .ok (.ireturn, 1) := by decide +kernel
theorem dX11_held_0 : decode cX11_held 0 = .ok (.aload_n 0, 1) := by decide +kernel
theorem dX11_held_1 : decode cX11_held 1 = .ok (.getfield 19, 3) := by decide +kernel
theorem dX11_held_4 : decode cX11_held 4 = .ok (.getfield 128, 3) := by decide +kernel
theorem dX11_held_7 : decode cX11_held 7 = .ok (.iload_n 1, 1) := by decide +kernel
theorem dX11_held_8 : decode cX11_held 8 = .ok (.invokevirtual 131, 3) := by decide +kernel
theorem dX11_held_11 : decode cX11_held 11 = .ok (.ifCond .eq 14, 3) := by decide +kernel
theorem dX11_held_14 : decode cX11_held 14 = .ok (.iload_n 2, 1) := by decide +kernel
theorem dX11_held_15 : decode cX11_held 15 = .ok (.iconst (-1), 1) := by decide +kernel
theorem dX11_held_16 : decode cX11_held 16 = .ok (.sipush 999, 3) := by decide +kernel
theorem dX11_held_19 : decode cX11_held 19 = .ok (.invokestatic 145, 3) := by decide +kernel
theorem dX11_held_22 : decode cX11_held 22 = .ok (.ifCond .ne 5, 3) := by decide +kernel
theorem dX11_held_25 : decode cX11_held 25 = .ok (.iconst (-1), 1) := by decide +kernel
theorem dX11_held_26 : decode cX11_held 26 = .ok (.ireturn, 1) := by decide +kernel
theorem dX11_held_27 : decode cX11_held 27 = .ok (.iconst 0, 1) := by decide +kernel
theorem dX11_held_28 : decode cX11_held 28 = .ok (.istore_n 3, 1) := by decide +kernel
theorem dX11_held_29 : decode cX11_held 29 = .ok (.iconst 0, 1) := by decide +kernel
theorem dX11_held_30 : decode cX11_held 30 = .ok (.istore 4, 2) := by decide +kernel
theorem dX11_held_32 : decode cX11_held 32 = .ok (.iload 4, 2) := by decide +kernel
theorem dX11_held_34 : decode cX11_held 34 = .ok (.aload_n 0, 1) := by decide +kernel
theorem dX11_held_35 : decode cX11_held 35 = .ok (.getfield 19, 3) := by decide +kernel
theorem dX11_held_38 : decode cX11_held 38 = .ok (.getfield 188, 3) := by decide +kernel
theorem dX11_held_41 : decode cX11_held 41 = .ok (.getfield 318, 3) := by decide +kernel
theorem dX11_held_44 : decode cX11_held 44 = .ok (.if_icmp .ge 76, 3) := by decide +kernel
theorem dX11_held_47 : decode cX11_held 47 = .ok (.iload_n 2, 1) := by decide +kernel
theorem dX11_held_48 : decode cX11_held 48 = .ok (.iconst (-1), 1) := by decide +kernel
theorem dX11_held_49 : decode cX11_held 49 = .ok (.if_icmp .ne 26, 3) := by decide +kernel
theorem dX11_held_52 : decode cX11_held 52 = .ok (.aload_n 0, 1) := by decide +kernel
theorem dX11_held_53 : decode cX11_held 53 = .ok (.getfield 19, 3) := by decide +kernel
theorem dX11_held_56 : decode cX11_held 56 = .ok (.getfield 188, 3) := by decide +kernel
theorem dX11_held_59 : decode cX11_held 59 = .ok (.iload 4, 2) := by decide +kernel
theorem dX11_held_61 : decode cX11_held 61 = .ok (.iload_n 1, 1) := by decide +kernel
theorem dX11_held_62 : decode cX11_held 62 = .ok (.aload_n 0, 1) := by decide +kernel
theorem dX11_held_63 : decode cX11_held 63 = .ok (.getfield 19, 3) := by decide +kernel
theorem dX11_held_66 : decode cX11_held 66 = .ok (.getfield 185, 3) := by decide +kernel
theorem dX11_held_69 : decode cX11_held 69 = .ok (.invokevirtual 373, 3) := by decide +kernel
theorem dX11_held_72 : decode cX11_held 72 = .ok (.goto 24, 3) := by decide +kernel
theorem dX11_held_75 : decode cX11_held 75 = .ok (.aload_n 0, 1) := by decide +kernel
theorem dX11_held_76 : decode cX11_held 76 = .ok (.getfield 19, 3) := by decide +kernel
theorem dX11_held_79 : decode cX11_held 79 = .ok (.getfield 188, 3) := by decide +kernel
theorem dX11_held_82 : decode cX11_held 82 = .ok (.iload 4, 2) := by decide +kernel
theorem dX11_held_84 : decode cX11_held 84 = .ok (.iload_n 1, 1) := by decide +kernel
theorem dX11_held_85 : decode cX11_held 85 = .ok (.iload_n 2, 1) := by decide +kernel
theorem dX11_held_86 : decode cX11_held 86 = .ok (.aload_n 0, 1) := by decide +kernel
theorem dX11_held_87 : decode cX11_held 87 = .ok (.getfield 19, 3) := by decide +kernel
theorem dX11_held_90 : decode cX11_held 90 = .ok (.getfield 185, 3) := by decide +kernel
theorem dX11_held_93 : decode cX11_held 93 = .ok (.invokevirtual 377, 3) := by decide +kernel
theorem dX11_held_96 : decode cX11_held 96 = .ok (.istore 5, 2) := by decide +kernel
theorem dX11_held_98 : decode cX11_held 98 = .ok (.iload_n 3, 1) := by decide +kernel
theorem dX11_held_99 : decode cX11_held 99 = .ok (.iload 5, 2) := by decide +kernel
theorem dX11_held_101 : decode cX11_held 101 = .ok (.ifCond .eq 10, 3) := by decide +kernel
theorem dX11_held_104 : decode cX11_held 104 = .ok (.iconst 1, 1) := by decide +kernel
theorem dX11_held_105 : decode cX11_held 105 = .ok (.iload 4, 2) := by decide +kernel
theorem dX11_held_107 : decode cX11_held 107 = .ok (.ishl, 1) := by decide +kernel
theorem dX11_held_108 : decode cX11_held 108 = .ok (.goto 4, 3) := by decide +kernel
theorem dX11_held_111 : decode cX11_held 111 = .ok (.iconst 0, 1) := by decide +kernel
theorem dX11_held_112 : decode cX11_held 112 = .ok (.ior, 1) := by decide +kernel
theorem dX11_held_113 : decode cX11_held 113 = .ok (.istore_n 3, 1) := by decide +kernel
theorem dX11_held_114 : decode cX11_held 114 = .ok (.iinc 4 1, 3) := by decide +kernel
theorem dX11_held_117 : decode cX11_held 117 = .ok (.goto (-85), 3) := by decide +kernel
theorem dX11_held_120 : decode cX11_held 120 = .ok (.iload_n 3, 1) := by decide +kernel
theorem dX11_held_121 : decode cX11_held 121 = .ok (.ireturn, 1) := by decide +kernel
theorem dX11_welds_0 : decode cX11_welds 0 = .ok (.aload_n 0, 1) := by decide +kernel
theorem dX11_welds_1 : decode cX11_welds 1 = .ok (.getfield 90, 3) := by decide +kernel
theorem dX11_welds_4 : decode cX11_welds 4 = .ok (.aload_n 0, 1) := by decide +kernel
theorem dX11_welds_5 : decode cX11_welds 5 = .ok (.getfield 10, 3) := by decide +kernel
theorem dX11_welds_8 : decode cX11_welds 8 = .ok (.invokevirtual 381, 3) := by decide +kernel
theorem dX11_welds_11 : decode cX11_welds 11 = .ok (.istore_n 1, 1) := by decide +kernel
theorem dX11_welds_12 : decode cX11_welds 12 = .ok (.aload_n 0, 1) := by decide +kernel
theorem dX11_welds_13 : decode cX11_welds 13 = .ok (.getfield 10, 3) := by decide +kernel
theorem dX11_welds_16 : decode cX11_welds 16 = .ok (.iconst 0, 1) := by decide +kernel
theorem dX11_welds_17 : decode cX11_welds 17 = .ok (.putfield 100, 3) := by decide +kernel
theorem dX11_welds_20 : decode cX11_welds 20 = .ok (.iload_n 1, 1) := by decide +kernel
theorem dX11_welds_21 : decode cX11_welds 21 = .ok (.ifCond .ne 13, 3) := by decide +kernel
theorem dX11_welds_24 : decode cX11_welds 24 = .ok (.iconst (-1), 1) := by decide +kernel
theorem dX11_welds_25 : decode cX11_welds 25 = .ok (.aload_n 0, 1) := by decide +kernel
theorem dX11_welds_26 : decode cX11_welds 26 = .ok (.getfield 10, 3) := by decide +kernel
theorem dX11_welds_29 : decode cX11_welds 29 = .ok (.getfield 111, 3) := by decide +kernel
theorem dX11_welds_32 : decode cX11_welds 32 = .ok (.isub, 1) := by decide +kernel
theorem dX11_welds_33 : decode cX11_welds 33 = .ok (.ireturn, 1) := by decide +kernel
theorem dX11_welds_34 : decode cX11_welds 34 = .ok (.aload_n 0, 1) := by decide +kernel
theorem dX11_welds_35 : decode cX11_welds 35 = .ok (.getfield 86, 3) := by decide +kernel
theorem dX11_welds_38 : decode cX11_welds 38 = .ok (.astore_n 2, 1) := by decide +kernel
theorem dX11_welds_39 : decode cX11_welds 39 = .ok (.aload_n 0, 1) := by decide +kernel
theorem dX11_welds_40 : decode cX11_welds 40 = .ok (.aload_n 0, 1) := by decide +kernel
theorem dX11_welds_41 : decode cX11_welds 41 = .ok (.getfield 90, 3) := by decide +kernel
theorem dX11_welds_44 : decode cX11_welds 44 = .ok (.putfield 86, 3) := by decide +kernel
theorem dX11_welds_47 : decode cX11_welds 47 = .ok (.aload_n 0, 1) := by decide +kernel
theorem dX11_welds_48 : decode cX11_welds 48 = .ok (.aload_n 2, 1) := by decide +kernel
theorem dX11_welds_49 : decode cX11_welds 49 = .ok (.putfield 90, 3) := by decide +kernel
theorem dX11_welds_52 : decode cX11_welds 52 = .ok (.aload_n 0, 1) := by decide +kernel
theorem dX11_welds_53 : decode cX11_welds 53 = .ok (.getfield 86, 3) := by decide +kernel
theorem dX11_welds_56 : decode cX11_welds 56 = .ok (.getfield 382, 3) := by decide +kernel
theorem dX11_welds_59 : decode cX11_welds 59 = .ok (.ireturn, 1) := by decide +kernel
theorem dX11_order_0 : decode cX11_order 0 = .ok (.aload_n 0, 1) := by decide +kernel
theorem dX11_order_1 : decode cX11_order 1 = .ok (.getfield 96, 3) := by decide +kernel
theorem dX11_order_4 : decode cX11_order 4 = .ok (.aload_n 0, 1) := by decide +kernel
theorem dX11_order_5 : decode cX11_order 5 = .ok (.getfield 86, 3) := by decide +kernel
theorem dX11_order_8 : decode cX11_order 8 = .ok (.invokevirtual 383, 3) := by decide +kernel
theorem dX11_order_11 : decode cX11_order 11 = .ok (.ifCond .eq 13, 3) := by decide +kernel
theorem dX11_order_14 : decode cX11_order 14 = .ok (.aload_n 0, 1) := by decide +kernel
theorem dX11_order_15 : decode cX11_order 15 = .ok (.getfield 86, 3) := by decide +kernel
theorem dX11_order_18 : decode cX11_order 18 = .ok (.getfield 382, 3) := by decide +kernel
theorem dX11_order_21 : decode cX11_order 21 = .ok (.goto 4, 3) := by decide +kernel
theorem dX11_order_24 : decode cX11_order 24 = .ok (.iconst (-1), 1) := by decide +kernel
theorem dX11_order_25 : decode cX11_order 25 = .ok (.ireturn, 1) := by decide +kernel
theorem dX11_orderAt_0 : decode cX11_orderAt 0 = .ok (.iload_n 1, 1) := by decide +kernel
theorem dX11_orderAt_1 : decode cX11_orderAt 1 = .ok (.iconst 0, 1) := by decide +kernel
theorem dX11_orderAt_2 : decode cX11_orderAt 2 = .ok (.aload_n 0, 1) := by decide +kernel
theorem dX11_orderAt_3 : decode cX11_orderAt 3 = .ok (.getfield 96, 3) := by decide +kernel
theorem dX11_orderAt_6 : decode cX11_orderAt 6 = .ok (.getfield 387, 3) := by decide +kernel
theorem dX11_orderAt_9 : decode cX11_orderAt 9 = .ok (.iconst 1, 1) := by decide +kernel
theorem dX11_orderAt_10 : decode cX11_orderAt 10 = .ok (.isub, 1) := by decide +kernel
theorem dX11_orderAt_11 : decode cX11_orderAt 11 = .ok (.invokestatic 145, 3) := by decide +kernel
theorem dX11_orderAt_14 : decode cX11_orderAt 14 = .ok (.ifCond .eq 15, 3) := by decide +kernel
theorem dX11_orderAt_17 : decode cX11_orderAt 17 = .ok (.aload_n 0, 1) := by decide +kernel
theorem dX11_orderAt_18 : decode cX11_orderAt 18 = .ok (.getfield 96, 3) := by decide +kernel
theorem dX11_orderAt_21 : decode cX11_orderAt 21 = .ok (.getfield 388, 3) := by decide +kernel
theorem dX11_orderAt_24 : decode cX11_orderAt 24 = .ok (.iload_n 1, 1) := by decide +kernel
theorem dX11_orderAt_25 : decode cX11_orderAt 25 = .ok (.iaload, 1) := by decide +kernel
theorem dX11_orderAt_26 : decode cX11_orderAt 26 = .ok (.goto 4, 3) := by decide +kernel
theorem dX11_orderAt_29 : decode cX11_orderAt 29 = .ok (.iconst (-1), 1) := by decide +kernel
theorem dX11_orderAt_30 : decode cX11_orderAt 30 = .ok (.ireturn, 1) := by decide +kernel
theorem dX11_check_0 : decode cX11_check 0 = .ok (.aload_n 0, 1) := by decide +kernel
theorem dX11_check_1 : decode cX11_check 1 = .ok (.getfield 10, 3) := by decide +kernel
theorem dX11_check_4 : decode cX11_check 4 = .ok (.getfield 100, 3) := by decide +kernel
theorem dX11_check_7 : decode cX11_check 7 = .ok (.istore_n 1, 1) := by decide +kernel
theorem dX11_check_8 : decode cX11_check 8 = .ok (.aload_n 0, 1) := by decide +kernel
theorem dX11_check_9 : decode cX11_check 9 = .ok (.getfield 10, 3) := by decide +kernel
theorem dX11_check_12 : decode cX11_check 12 = .ok (.iconst 0, 1) := by decide +kernel
theorem dX11_check_13 : decode cX11_check 13 = .ok (.putfield 100, 3) := by decide +kernel
theorem dX11_check_16 : decode cX11_check 16 = .ok (.aload_n 0, 1) := by decide +kernel
theorem dX11_check_17 : decode cX11_check 17 = .ok (.getfield 96, 3) := by decide +kernel
theorem dX11_check_20 : decode cX11_check 20 = .ok (.aload_n 0, 1) := by decide +kernel
theorem dX11_check_21 : decode cX11_check 21 = .ok (.getfield 86, 3) := by decide +kernel
theorem dX11_check_24 : decode cX11_check 24 = .ok (.aload_n 0, 1) := by decide +kernel
theorem dX11_check_25 : decode cX11_check 25 = .ok (.getfield 10, 3) := by decide +kernel
theorem dX11_check_28 : decode cX11_check 28 = .ok (.iload_n 1, 1) := by decide +kernel
theorem dX11_check_29 : decode cX11_check 29 = .ok (.invokevirtual 391, 3) := by decide +kernel
theorem dX11_check_32 : decode cX11_check 32 = .ok (.istore_n 2, 1) := by decide +kernel
theorem dX11_check_33 : decode cX11_check 33 = .ok (.iload_n 2, 1) := by decide +kernel
theorem dX11_check_34 : decode cX11_check 34 = .ok (.iload_n 1, 1) := by decide +kernel
theorem dX11_check_35 : decode cX11_check 35 = .ok (.if_icmp .ne 18, 3) := by decide +kernel
theorem dX11_check_38 : decode cX11_check 38 = .ok (.iload_n 2, 1) := by decide +kernel
theorem dX11_check_39 : decode cX11_check 39 = .ok (.aload_n 0, 1) := by decide +kernel
theorem dX11_check_40 : decode cX11_check 40 = .ok (.getfield 86, 3) := by decide +kernel
theorem dX11_check_43 : decode cX11_check 43 = .ok (.getfield 382, 3) := by decide +kernel
theorem dX11_check_46 : decode cX11_check 46 = .ok (.if_icmp .ne 7, 3) := by decide +kernel
theorem dX11_check_49 : decode cX11_check 49 = .ok (.iconst (-1), 1) := by decide +kernel
theorem dX11_check_50 : decode cX11_check 50 = .ok (.goto 4, 3) := by decide +kernel
theorem dX11_check_53 : decode cX11_check 53 = .ok (.iload_n 2, 1) := by decide +kernel
theorem dX11_check_54 : decode cX11_check 54 = .ok (.ireturn, 1) := by decide +kernel
theorem dX11_image_0 : decode cX11_image 0 = .ok (.iload_n 1, 1) := by decide +kernel
theorem dX11_image_1 : decode cX11_image 1 = .ok (.iconst 0, 1) := by decide +kernel
theorem dX11_image_2 : decode cX11_image 2 = .ok (.iconst 1, 1) := by decide +kernel
theorem dX11_image_3 : decode cX11_image 3 = .ok (.invokestatic 145, 3) := by decide +kernel
theorem dX11_image_6 : decode cX11_image 6 = .ok (.ifCond .ne 5, 3) := by decide +kernel
theorem dX11_image_9 : decode cX11_image 9 = .ok (.iconst 0, 1) := by decide +kernel
theorem dX11_image_10 : decode cX11_image 10 = .ok (.ireturn, 1) := by decide +kernel
theorem dX11_image_11 : decode cX11_image 11 = .ok (.aload_n 0, 1) := by decide +kernel
theorem dX11_image_12 : decode cX11_image 12 = .ok (.getfield 23, 3) := by decide +kernel
theorem dX11_image_15 : decode cX11_image 15 = .ok (.iload_n 1, 1) := by decide +kernel
theorem dX11_image_16 : decode cX11_image 16 = .ok (.aaload, 1) := by decide +kernel
theorem dX11_image_17 : decode cX11_image 17 = .ok (.ifnonnull 16, 3) := by decide +kernel
theorem dX11_image_20 : decode cX11_image 20 = .ok (.aload_n 0, 1) := by decide +kernel
theorem dX11_image_21 : decode cX11_image 21 = .ok (.getfield 23, 3) := by decide +kernel
theorem dX11_image_24 : decode cX11_image 24 = .ok (.iload_n 1, 1) := by decide +kernel
theorem dX11_image_25 : decode cX11_image 25 = .ok (.new 16, 3) := by decide +kernel
theorem dX11_image_28 : decode cX11_image 28 = .ok (.dup, 1) := by decide +kernel
theorem dX11_image_29 : decode cX11_image 29 = .ok (.invokespecial 18, 3) := by decide +kernel
theorem dX11_image_32 : decode cX11_image 32 = .ok (.aastore, 1) := by decide +kernel
theorem dX11_image_33 : decode cX11_image 33 = .ok (.aload_n 0, 1) := by decide +kernel
theorem dX11_image_34 : decode cX11_image 34 = .ok (.getfield 23, 3) := by decide +kernel
theorem dX11_image_37 : decode cX11_image 37 = .ok (.iload_n 1, 1) := by decide +kernel
theorem dX11_image_38 : decode cX11_image 38 = .ok (.aaload, 1) := by decide +kernel
theorem dX11_image_39 : decode cX11_image 39 = .ok (.aload_n 0, 1) := by decide +kernel
theorem dX11_image_40 : decode cX11_image 40 = .ok (.getfield 19, 3) := by decide +kernel
theorem dX11_image_43 : decode cX11_image 43 = .ok (.invokevirtual 395, 3) := by decide +kernel
theorem dX11_image_46 : decode cX11_image 46 = .ok (.iconst 1, 1) := by decide +kernel
theorem dX11_image_47 : decode cX11_image 47 = .ok (.ireturn, 1) := by decide +kernel
theorem dX11_restore_0 : decode cX11_restore 0 = .ok (.iload_n 1, 1) := by decide +kernel
theorem dX11_restore_1 : decode cX11_restore 1 = .ok (.iconst 0, 1) := by decide +kernel
theorem dX11_restore_2 : decode cX11_restore 2 = .ok (.iconst 1, 1) := by decide +kernel
theorem dX11_restore_3 : decode cX11_restore 3 = .ok (.invokestatic 145, 3) := by decide +kernel
theorem dX11_restore_6 : decode cX11_restore 6 = .ok (.ifCond .eq 12, 3) := by decide +kernel
theorem dX11_restore_9 : decode cX11_restore 9 = .ok (.aload_n 0, 1) := by decide +kernel
theorem dX11_restore_10 : decode cX11_restore 10 = .ok (.getfield 23, 3) := by decide +kernel
theorem dX11_restore_13 : decode cX11_restore 13 = .ok (.iload_n 1, 1) := by decide +kernel
theorem dX11_restore_14 : decode cX11_restore 14 = .ok (.aaload, 1) := by decide +kernel
theorem dX11_restore_15 : decode cX11_restore 15 = .ok (.ifnonnull 5, 3) := by decide +kernel
theorem dX11_restore_18 : decode cX11_restore 18 = .ok (.iconst 0, 1) := by decide +kernel
theorem dX11_restore_19 : decode cX11_restore 19 = .ok (.ireturn, 1) := by decide +kernel
theorem dX11_restore_20 : decode cX11_restore 20 = .ok (.aload_n 0, 1) := by decide +kernel
theorem dX11_restore_21 : decode cX11_restore 21 = .ok (.getfield 19, 3) := by decide +kernel
theorem dX11_restore_24 : decode cX11_restore 24 = .ok (.aload_n 0, 1) := by decide +kernel
theorem dX11_restore_25 : decode cX11_restore 25 = .ok (.getfield 23, 3) := by decide +kernel
theorem dX11_restore_28 : decode cX11_restore 28 = .ok (.iload_n 1, 1) := by decide +kernel
theorem dX11_restore_29 : decode cX11_restore 29 = .ok (.aaload, 1) := by decide +kernel
theorem dX11_restore_30 : decode cX11_restore 30 = .ok (.invokevirtual 395, 3) := by decide +kernel
theorem dX11_restore_33 : decode cX11_restore 33 = .ok (.aload_n 0, 1) := by decide +kernel
theorem dX11_restore_34 : decode cX11_restore 34 = .ok (.getfield 44, 3) := by decide +kernel
theorem dX11_restore_37 : decode cX11_restore 37 = .ok (.iconst 1, 1) := by decide +kernel
theorem dX11_restore_38 : decode cX11_restore 38 = .ok (.putfield 118, 3) := by decide +kernel
theorem dX11_restore_41 : decode cX11_restore 41 = .ok (.iconst 1, 1) := by decide +kernel
theorem dX11_restore_42 : decode cX11_restore 42 = .ok (.ireturn, 1) := by decide +kernel
theorem dX11_count_0 : decode cX11_count 0 = .ok (.iload_n 1, 1) := by decide +kernel
theorem dX11_count_1 : decode cX11_count 1 = .ok (.tableswitch 135 0 8 #[51, 62, 73, 81, 89, 97, 108, 119, 127], 51) := by decide +kernel
theorem dX11_count_52 : decode cX11_count 52 = .ok (.aload_n 0, 1) := by decide +kernel
theorem dX11_count_53 : decode cX11_count 53 = .ok (.getfield 19, 3) := by decide +kernel
theorem dX11_count_56 : decode cX11_count 56 = .ok (.getfield 128, 3) := by decide +kernel
theorem dX11_count_59 : decode cX11_count 59 = .ok (.getfield 397, 3) := by decide +kernel
theorem dX11_count_62 : decode cX11_count 62 = .ok (.ireturn, 1) := by decide +kernel
theorem dX11_count_63 : decode cX11_count 63 = .ok (.aload_n 0, 1) := by decide +kernel
theorem dX11_count_64 : decode cX11_count 64 = .ok (.getfield 19, 3) := by decide +kernel
theorem dX11_count_67 : decode cX11_count 67 = .ok (.getfield 128, 3) := by decide +kernel
theorem dX11_count_70 : decode cX11_count 70 = .ok (.getfield 400, 3) := by decide +kernel
theorem dX11_count_73 : decode cX11_count 73 = .ok (.ireturn, 1) := by decide +kernel
theorem dX11_count_74 : decode cX11_count 74 = .ok (.aload_n 0, 1) := by decide +kernel
theorem dX11_count_75 : decode cX11_count 75 = .ok (.getfield 19, 3) := by decide +kernel
theorem dX11_count_78 : decode cX11_count 78 = .ok (.getfield 204, 3) := by decide +kernel
theorem dX11_count_81 : decode cX11_count 81 = .ok (.ireturn, 1) := by decide +kernel
theorem dX11_count_82 : decode cX11_count 82 = .ok (.aload_n 0, 1) := by decide +kernel
theorem dX11_count_83 : decode cX11_count 83 = .ok (.getfield 19, 3) := by decide +kernel
theorem dX11_count_86 : decode cX11_count 86 = .ok (.getfield 149, 3) := by decide +kernel
theorem dX11_count_89 : decode cX11_count 89 = .ok (.ireturn, 1) := by decide +kernel
theorem dX11_count_90 : decode cX11_count 90 = .ok (.aload_n 0, 1) := by decide +kernel
theorem dX11_count_91 : decode cX11_count 91 = .ok (.getfield 19, 3) := by decide +kernel
theorem dX11_count_94 : decode cX11_count 94 = .ok (.getfield 156, 3) := by decide +kernel
theorem dX11_count_97 : decode cX11_count 97 = .ok (.ireturn, 1) := by decide +kernel
theorem dX11_count_98 : decode cX11_count 98 = .ok (.aload_n 0, 1) := by decide +kernel
theorem dX11_count_99 : decode cX11_count 99 = .ok (.getfield 19, 3) := by decide +kernel
theorem dX11_count_102 : decode cX11_count 102 = .ok (.getfield 188, 3) := by decide +kernel
theorem dX11_count_105 : decode cX11_count 105 = .ok (.getfield 318, 3) := by decide +kernel
theorem dX11_count_108 : decode cX11_count 108 = .ok (.ireturn, 1) := by decide +kernel
theorem dX11_count_109 : decode cX11_count 109 = .ok (.aload_n 0, 1) := by decide +kernel
theorem dX11_count_110 : decode cX11_count 110 = .ok (.getfield 19, 3) := by decide +kernel
theorem dX11_count_113 : decode cX11_count 113 = .ok (.getfield 188, 3) := by decide +kernel
theorem dX11_count_116 : decode cX11_count 116 = .ok (.getfield 351, 3) := by decide +kernel
theorem dX11_count_119 : decode cX11_count 119 = .ok (.ireturn, 1) := by decide +kernel
theorem dX11_count_120 : decode cX11_count 120 = .ok (.aload_n 0, 1) := by decide +kernel
theorem dX11_count_121 : decode cX11_count 121 = .ok (.getfield 86, 3) := by decide +kernel
theorem dX11_count_124 : decode cX11_count 124 = .ok (.getfield 382, 3) := by decide +kernel
theorem dX11_count_127 : decode cX11_count 127 = .ok (.ireturn, 1) := by decide +kernel
theorem dX11_count_128 : decode cX11_count 128 = .ok (.aload_n 0, 1) := by decide +kernel
theorem dX11_count_129 : decode cX11_count 129 = .ok (.getfield 10, 3) := by decide +kernel
theorem dX11_count_132 : decode cX11_count 132 = .ok (.getfield 100, 3) := by decide +kernel
theorem dX11_count_135 : decode cX11_count 135 = .ok (.ireturn, 1) := by decide +kernel
theorem dX11_count_136 : decode cX11_count 136 = .ok (.iconst (-1), 1) := by decide +kernel
theorem dX11_count_137 : decode cX11_count 137 = .ok (.ireturn, 1) := by decide +kernel
theorem dX11_within_0 : decode cX11_within 0 = .ok (.iload_n 0, 1) := by decide +kernel
theorem dX11_within_1 : decode cX11_within 1 = .ok (.iload_n 1, 1) := by decide +kernel
theorem dX11_within_2 : decode cX11_within 2 = .ok (.if_icmp .lt 12, 3) := by decide +kernel
theorem dX11_within_5 : decode cX11_within 5 = .ok (.iload_n 0, 1) := by decide +kernel
theorem dX11_within_6 : decode cX11_within 6 = .ok (.iload_n 2, 1) := by decide +kernel
theorem dX11_within_7 : decode cX11_within 7 = .ok (.if_icmp .gt 7, 3) := by decide +kernel
theorem dX11_within_10 : decode cX11_within 10 = .ok (.iconst 1, 1) := by decide +kernel
theorem dX11_within_11 : decode cX11_within 11 = .ok (.goto 4, 3) := by decide +kernel
theorem dX11_within_14 : decode cX11_within 14 = .ok (.iconst 0, 1) := by decide +kernel
theorem dX11_within_15 : decode cX11_within 15 = .ok (.ireturn, 1) := by decide +kernel
theorem dX11_cut_0 : decode cX11_cut 0 = .ok (.iload_n 1, 1) := by decide +kernel
theorem dX11_cut_1 : decode cX11_cut 1 = .ok (.ifCond .ne 7, 3) := by decide +kernel
theorem dX11_cut_4 : decode cX11_cut 4 = .ok (.iconst 0, 1) := by decide +kernel
theorem dX11_cut_5 : decode cX11_cut 5 = .ok (.goto 6, 3) := by decide +kernel
theorem dX11_cut_8 : decode cX11_cut 8 = .ok (.iload_n 0, 1) := by decide +kernel
theorem dX11_cut_9 : decode cX11_cut 9 = .ok (.iload_n 1, 1) := by decide +kernel
theorem dX11_cut_10 : decode cX11_cut 10 = .ok (.idiv, 1) := by decide +kernel
theorem dX11_cut_11 : decode cX11_cut 11 = .ok (.ireturn, 1) := by decide +kernel
theorem dX11_divides_0 : decode cX11_divides 0 = .ok (.iload_n 0, 1) := by decide +kernel
theorem dX11_divides_1 : decode cX11_divides 1 = .ok (.iconst 1, 1) := by decide +kernel
theorem dX11_divides_2 : decode cX11_divides 2 = .ok (.if_icmp .lt 18, 3) := by decide +kernel
theorem dX11_divides_5 : decode cX11_divides 5 = .ok (.iload_n 1, 1) := by decide +kernel
theorem dX11_divides_6 : decode cX11_divides 6 = .ok (.iload_n 0, 1) := by decide +kernel
theorem dX11_divides_7 : decode cX11_divides 7 = .ok (.if_icmp .lt 13, 3) := by decide +kernel
theorem dX11_divides_10 : decode cX11_divides 10 = .ok (.iload_n 1, 1) := by decide +kernel
theorem dX11_divides_11 : decode cX11_divides 11 = .ok (.iload_n 0, 1) := by decide +kernel
theorem dX11_divides_12 : decode cX11_divides 12 = .ok (.irem, 1) := by decide +kernel
theorem dX11_divides_13 : decode cX11_divides 13 = .ok (.ifCond .ne 7, 3) := by decide +kernel
theorem dX11_divides_16 : decode cX11_divides 16 = .ok (.iconst 1, 1) := by decide +kernel
theorem dX11_divides_17 : decode cX11_divides 17 = .ok (.goto 4, 3) := by decide +kernel
theorem dX11_divides_20 : decode cX11_divides 20 = .ok (.iconst 0, 1) := by decide +kernel
theorem dX11_divides_21 : decode cX11_divides 21 = .ok (.ireturn, 1) := by decide +kernel
theorem dX11_greatestDivisor_0 : decode cX11_greatestDivisor 0 = .ok (.iload_n 0, 1) := by decide +kernel
theorem dX11_greatestDivisor_1 : decode cX11_greatestDivisor 1 = .ok (.ifCond .ge 8, 3) := by decide +kernel
theorem dX11_greatestDivisor_4 : decode cX11_greatestDivisor 4 = .ok (.iload_n 0, 1) := by decide +kernel
theorem dX11_greatestDivisor_5 : decode cX11_greatestDivisor 5 = .ok (.ineg, 1) := by decide +kernel
theorem dX11_greatestDivisor_6 : decode cX11_greatestDivisor 6 = .ok (.goto 4, 3) := by decide +kernel
theorem dX11_greatestDivisor_9 : decode cX11_greatestDivisor 9 = .ok (.iload_n 0, 1) := by decide +kernel
theorem dX11_greatestDivisor_10 : decode cX11_greatestDivisor 10 = .ok (.istore_n 2, 1) := by decide +kernel
theorem dX11_greatestDivisor_11 : decode cX11_greatestDivisor 11 = .ok (.iload_n 1, 1) := by decide +kernel
theorem dX11_greatestDivisor_12 : decode cX11_greatestDivisor 12 = .ok (.istore_n 3, 1) := by decide +kernel
theorem dX11_greatestDivisor_13 : decode cX11_greatestDivisor 13 = .ok (.bipush 64, 2) := by decide +kernel
theorem dX11_greatestDivisor_15 : decode cX11_greatestDivisor 15 = .ok (.istore 4, 2) := by decide +kernel
theorem dX11_greatestDivisor_17 : decode cX11_greatestDivisor 17 = .ok (.iload 4, 2) := by decide +kernel
theorem dX11_greatestDivisor_19 : decode cX11_greatestDivisor 19 = .ok (.ifCond .le 23, 3) := by decide +kernel
theorem dX11_greatestDivisor_22 : decode cX11_greatestDivisor 22 = .ok (.iload_n 3, 1) := by decide +kernel
theorem dX11_greatestDivisor_23 : decode cX11_greatestDivisor 23 = .ok (.ifCond .eq 19, 3) := by decide +kernel
theorem dX11_greatestDivisor_26 : decode cX11_greatestDivisor 26 = .ok (.iload_n 2, 1) := by decide +kernel
theorem dX11_greatestDivisor_27 : decode cX11_greatestDivisor 27 = .ok (.iload_n 3, 1) := by decide +kernel
theorem dX11_greatestDivisor_28 : decode cX11_greatestDivisor 28 = .ok (.irem, 1) := by decide +kernel
theorem dX11_greatestDivisor_29 : decode cX11_greatestDivisor 29 = .ok (.istore 5, 2) := by decide +kernel
theorem dX11_greatestDivisor_31 : decode cX11_greatestDivisor 31 = .ok (.iload_n 3, 1) := by decide +kernel
theorem dX11_greatestDivisor_32 : decode cX11_greatestDivisor 32 = .ok (.istore_n 2, 1) := by decide +kernel
theorem dX11_greatestDivisor_33 : decode cX11_greatestDivisor 33 = .ok (.iload 5, 2) := by decide +kernel
theorem dX11_greatestDivisor_35 : decode cX11_greatestDivisor 35 = .ok (.istore_n 3, 1) := by decide +kernel
theorem dX11_greatestDivisor_36 : decode cX11_greatestDivisor 36 = .ok (.iinc 4 (-1), 3) := by decide +kernel
theorem dX11_greatestDivisor_39 : decode cX11_greatestDivisor 39 = .ok (.goto (-22), 3) := by decide +kernel
theorem dX11_greatestDivisor_42 : decode cX11_greatestDivisor 42 = .ok (.iload_n 2, 1) := by decide +kernel
theorem dX11_greatestDivisor_43 : decode cX11_greatestDivisor 43 = .ok (.ireturn, 1) := by decide +kernel
theorem dX11_pickCells_0 : decode cX11_pickCells 0 = .ok (.aload_n 0, 1) := by decide +kernel
theorem dX11_pickCells_1 : decode cX11_pickCells 1 = .ok (.getfield 10, 3) := by decide +kernel
theorem dX11_pickCells_4 : decode cX11_pickCells 4 = .ok (.getfield 100, 3) := by decide +kernel
theorem dX11_pickCells_7 : decode cX11_pickCells 7 = .ok (.istore 4, 2) := by decide +kernel
theorem dX11_pickCells_9 : decode cX11_pickCells 9 = .ok (.aload_n 0, 1) := by decide +kernel
theorem dX11_pickCells_10 : decode cX11_pickCells 10 = .ok (.getfield 10, 3) := by decide +kernel
theorem dX11_pickCells_13 : decode cX11_pickCells 13 = .ok (.iconst 0, 1) := by decide +kernel
theorem dX11_pickCells_14 : decode cX11_pickCells 14 = .ok (.putfield 100, 3) := by decide +kernel
theorem dX11_pickCells_17 : decode cX11_pickCells 17 = .ok (.iload 4, 2) := by decide +kernel
theorem dX11_pickCells_19 : decode cX11_pickCells 19 = .ok (.iload_n 1, 1) := by decide +kernel
theorem dX11_pickCells_20 : decode cX11_pickCells 20 = .ok (.iload_n 2, 1) := by decide +kernel
theorem dX11_pickCells_21 : decode cX11_pickCells 21 = .ok (.invokestatic 145, 3) := by decide +kernel
theorem dX11_pickCells_24 : decode cX11_pickCells 24 = .ok (.ifCond .ne 5, 3) := by decide +kernel
theorem dX11_pickCells_27 : decode cX11_pickCells 27 = .ok (.iconst (-1), 1) := by decide +kernel
theorem dX11_pickCells_28 : decode cX11_pickCells 28 = .ok (.ireturn, 1) := by decide +kernel
theorem dX11_pickCells_29 : decode cX11_pickCells 29 = .ok (.aload_n 0, 1) := by decide +kernel
theorem dX11_pickCells_30 : decode cX11_pickCells 30 = .ok (.getfield 44, 3) := by decide +kernel
theorem dX11_pickCells_33 : decode cX11_pickCells 33 = .ok (.aload_n 0, 1) := by decide +kernel
theorem dX11_pickCells_34 : decode cX11_pickCells 34 = .ok (.getfield 19, 3) := by decide +kernel
theorem dX11_pickCells_37 : decode cX11_pickCells 37 = .ok (.invokevirtual 171, 3) := by decide +kernel
theorem dX11_pickCells_40 : decode cX11_pickCells 40 = .ok (.lconst 0, 1) := by decide +kernel
theorem dX11_pickCells_41 : decode cX11_pickCells 41 = .ok (.lstore 5, 2) := by decide +kernel
theorem dX11_pickCells_43 : decode cX11_pickCells 43 = .ok (.iconst 0, 1) := by decide +kernel
theorem dX11_pickCells_44 : decode cX11_pickCells 44 = .ok (.istore 7, 2) := by decide +kernel
theorem dX11_pickCells_46 : decode cX11_pickCells 46 = .ok (.iload 7, 2) := by decide +kernel
theorem dX11_pickCells_48 : decode cX11_pickCells 48 = .ok (.iload 4, 2) := by decide +kernel
theorem dX11_pickCells_50 : decode cX11_pickCells 50 = .ok (.if_icmp .ge 99, 3) := by decide +kernel
theorem dX11_pickCells_53 : decode cX11_pickCells 53 = .ok (.aload_n 0, 1) := by decide +kernel
theorem dX11_pickCells_54 : decode cX11_pickCells 54 = .ok (.getfield 10, 3) := by decide +kernel
theorem dX11_pickCells_57 : decode cX11_pickCells 57 = .ok (.iload 7, 2) := by decide +kernel
theorem dX11_pickCells_59 : decode cX11_pickCells 59 = .ok (.invokevirtual 305, 3) := by decide +kernel
theorem dX11_pickCells_62 : decode cX11_pickCells 62 = .ok (.istore 8, 2) := by decide +kernel
theorem dX11_pickCells_64 : decode cX11_pickCells 64 = .ok (.aload_n 0, 1) := by decide +kernel
theorem dX11_pickCells_65 : decode cX11_pickCells 65 = .ok (.getfield 19, 3) := by decide +kernel
theorem dX11_pickCells_68 : decode cX11_pickCells 68 = .ok (.iload 8, 2) := by decide +kernel
theorem dX11_pickCells_70 : decode cX11_pickCells 70 = .ok (.invokevirtual 139, 3) := by decide +kernel
theorem dX11_pickCells_73 : decode cX11_pickCells 73 = .ok (.ifCond .eq 27, 3) := by decide +kernel
theorem dX11_pickCells_76 : decode cX11_pickCells 76 = .ok (.lload 5, 2) := by decide +kernel
theorem dX11_pickCells_78 : decode cX11_pickCells 78 = .ok (.iload 8, 2) := by decide +kernel
theorem dX11_pickCells_80 : decode cX11_pickCells 80 = .ok (.lshr, 1) := by decide +kernel
theorem dX11_pickCells_81 : decode cX11_pickCells 81 = .ok (.lconst 1, 1) := by decide +kernel
theorem dX11_pickCells_82 : decode cX11_pickCells 82 = .ok (.land, 1) := by decide +kernel
theorem dX11_pickCells_83 : decode cX11_pickCells 83 = .ok (.lconst 0, 1) := by decide +kernel
theorem dX11_pickCells_84 : decode cX11_pickCells 84 = .ok (.lcmp, 1) := by decide +kernel
theorem dX11_pickCells_85 : decode cX11_pickCells 85 = .ok (.ifCond .ne 15, 3) := by decide +kernel
theorem dX11_pickCells_88 : decode cX11_pickCells 88 = .ok (.aload_n 0, 1) := by decide +kernel
theorem dX11_pickCells_89 : decode cX11_pickCells 89 = .ok (.getfield 44, 3) := by decide +kernel
theorem dX11_pickCells_92 : decode cX11_pickCells 92 = .ok (.iload 8, 2) := by decide +kernel
theorem dX11_pickCells_94 : decode cX11_pickCells 94 = .ok (.invokevirtual 354, 3) := by decide +kernel
theorem dX11_pickCells_97 : decode cX11_pickCells 97 = .ok (.ifCond .ne 5, 3) := by decide +kernel
theorem dX11_pickCells_100 : decode cX11_pickCells 100 = .ok (.iconst (-1), 1) := by decide +kernel
theorem dX11_pickCells_101 : decode cX11_pickCells 101 = .ok (.ireturn, 1) := by decide +kernel
theorem dX11_pickCells_102 : decode cX11_pickCells 102 = .ok (.iload_n 3, 1) := by decide +kernel
theorem dX11_pickCells_103 : decode cX11_pickCells 103 = .ok (.ifCond .eq 22, 3) := by decide +kernel
theorem dX11_pickCells_106 : decode cX11_pickCells 106 = .ok (.aload_n 0, 1) := by decide +kernel
theorem dX11_pickCells_107 : decode cX11_pickCells 107 = .ok (.getfield 19, 3) := by decide +kernel
theorem dX11_pickCells_110 : decode cX11_pickCells 110 = .ok (.getfield 188, 3) := by decide +kernel
theorem dX11_pickCells_113 : decode cX11_pickCells 113 = .ok (.getfield 192, 3) := by decide +kernel
theorem dX11_pickCells_116 : decode cX11_pickCells 116 = .ok (.iload 8, 2) := by decide +kernel
theorem dX11_pickCells_118 : decode cX11_pickCells 118 = .ok (.iaload, 1) := by decide +kernel
theorem dX11_pickCells_119 : decode cX11_pickCells 119 = .ok (.iconst (-1), 1) := by decide +kernel
theorem dX11_pickCells_120 : decode cX11_pickCells 120 = .ok (.if_icmp .eq 5, 3) := by decide +kernel
theorem dX11_pickCells_123 : decode cX11_pickCells 123 = .ok (.iconst (-1), 1) := by decide +kernel
theorem dX11_pickCells_124 : decode cX11_pickCells 124 = .ok (.ireturn, 1) := by decide +kernel
theorem dX11_pickCells_125 : decode cX11_pickCells 125 = .ok (.lload 5, 2) := by decide +kernel
theorem dX11_pickCells_127 : decode cX11_pickCells 127 = .ok (.lconst 1, 1) := by decide +kernel
theorem dX11_pickCells_128 : decode cX11_pickCells 128 = .ok (.iload 8, 2) := by decide +kernel
theorem dX11_pickCells_130 : decode cX11_pickCells 130 = .ok (.lshl, 1) := by decide +kernel
theorem dX11_pickCells_131 : decode cX11_pickCells 131 = .ok (.lor, 1) := by decide +kernel
theorem dX11_pickCells_132 : decode cX11_pickCells 132 = .ok (.lstore 5, 2) := by decide +kernel
theorem dX11_pickCells_134 : decode cX11_pickCells 134 = .ok (.aload_n 0, 1) := by decide +kernel
theorem dX11_pickCells_135 : decode cX11_pickCells 135 = .ok (.getfield 48, 3) := by decide +kernel
theorem dX11_pickCells_138 : decode cX11_pickCells 138 = .ok (.iload 7, 2) := by decide +kernel
theorem dX11_pickCells_140 : decode cX11_pickCells 140 = .ok (.iload 8, 2) := by decide +kernel
theorem dX11_pickCells_142 : decode cX11_pickCells 142 = .ok (.iastore, 1) := by decide +kernel
theorem dX11_pickCells_143 : decode cX11_pickCells 143 = .ok (.iinc 7 1, 3) := by decide +kernel
theorem dX11_pickCells_146 : decode cX11_pickCells 146 = .ok (.goto (-100), 3) := by decide +kernel
theorem dX11_pickCells_149 : decode cX11_pickCells 149 = .ok (.iload 4, 2) := by decide +kernel
theorem dX11_pickCells_151 : decode cX11_pickCells 151 = .ok (.ireturn, 1) := by decide +kernel
theorem dX11_strongCells_0 : decode cX11_strongCells 0 = .ok (.iconst 0, 1) := by decide +kernel
theorem dX11_strongCells_1 : decode cX11_strongCells 1 = .ok (.istore_n 3, 1) := by decide +kernel
theorem dX11_strongCells_2 : decode cX11_strongCells 2 = .ok (.iconst 0, 1) := by decide +kernel
theorem dX11_strongCells_3 : decode cX11_strongCells 3 = .ok (.istore 4, 2) := by decide +kernel
theorem dX11_strongCells_5 : decode cX11_strongCells 5 = .ok (.iload 4, 2) := by decide +kernel
theorem dX11_strongCells_7 : decode cX11_strongCells 7 = .ok (.iload_n 1, 1) := by decide +kernel
theorem dX11_strongCells_8 : decode cX11_strongCells 8 = .ok (.if_icmp .ge 36, 3) := by decide +kernel
theorem dX11_strongCells_11 : decode cX11_strongCells 11 = .ok (.iload_n 3, 1) := by decide +kernel
theorem dX11_strongCells_12 : decode cX11_strongCells 12 = .ok (.aload_n 0, 1) := by decide +kernel
theorem dX11_strongCells_13 : decode cX11_strongCells 13 = .ok (.getfield 44, 3) := by decide +kernel
theorem dX11_strongCells_16 : decode cX11_strongCells 16 = .ok (.getfield 257, 3) := by decide +kernel
theorem dX11_strongCells_19 : decode cX11_strongCells 19 = .ok (.aload_n 0, 1) := by decide +kernel
theorem dX11_strongCells_20 : decode cX11_strongCells 20 = .ok (.getfield 48, 3) := by decide +kernel
theorem dX11_strongCells_23 : decode cX11_strongCells 23 = .ok (.iload 4, 2) := by decide +kernel
theorem dX11_strongCells_25 : decode cX11_strongCells 25 = .ok (.iaload, 1) := by decide +kernel
theorem dX11_strongCells_26 : decode cX11_strongCells 26 = .ok (.iaload, 1) := by decide +kernel
theorem dX11_strongCells_27 : decode cX11_strongCells 27 = .ok (.iload_n 2, 1) := by decide +kernel
theorem dX11_strongCells_28 : decode cX11_strongCells 28 = .ok (.if_icmp .lt 7, 3) := by decide +kernel
theorem dX11_strongCells_31 : decode cX11_strongCells 31 = .ok (.iconst 1, 1) := by decide +kernel
theorem dX11_strongCells_32 : decode cX11_strongCells 32 = .ok (.goto 4, 3) := by decide +kernel
theorem dX11_strongCells_35 : decode cX11_strongCells 35 = .ok (.iconst 0, 1) := by decide +kernel
theorem dX11_strongCells_36 : decode cX11_strongCells 36 = .ok (.iadd, 1) := by decide +kernel
theorem dX11_strongCells_37 : decode cX11_strongCells 37 = .ok (.istore_n 3, 1) := by decide +kernel
theorem dX11_strongCells_38 : decode cX11_strongCells 38 = .ok (.iinc 4 1, 3) := by decide +kernel
theorem dX11_strongCells_41 : decode cX11_strongCells 41 = .ok (.goto (-36), 3) := by decide +kernel
theorem dX11_strongCells_44 : decode cX11_strongCells 44 = .ok (.iload_n 3, 1) := by decide +kernel
theorem dX11_strongCells_45 : decode cX11_strongCells 45 = .ok (.ireturn, 1) := by decide +kernel
theorem dX11_strongPairs_0 : decode cX11_strongPairs 0 = .ok (.aload_n 0, 1) := by decide +kernel
theorem dX11_strongPairs_1 : decode cX11_strongPairs 1 = .ok (.iload_n 1, 1) := by decide +kernel
theorem dX11_strongPairs_2 : decode cX11_strongPairs 2 = .ok (.invokevirtual 403, 3) := by decide +kernel
theorem dX11_strongPairs_5 : decode cX11_strongPairs 5 = .ok (.iconst 0, 1) := by decide +kernel
theorem dX11_strongPairs_6 : decode cX11_strongPairs 6 = .ok (.istore_n 3, 1) := by decide +kernel
theorem dX11_strongPairs_7 : decode cX11_strongPairs 7 = .ok (.iload_n 1, 1) := by decide +kernel
theorem dX11_strongPairs_8 : decode cX11_strongPairs 8 = .ok (.iconst 1, 1) := by decide +kernel
theorem dX11_strongPairs_9 : decode cX11_strongPairs 9 = .ok (.isub, 1) := by decide +kernel
theorem dX11_strongPairs_10 : decode cX11_strongPairs 10 = .ok (.istore 4, 2) := by decide +kernel
theorem dX11_strongPairs_12 : decode cX11_strongPairs 12 = .ok (.iconst 0, 1) := by decide +kernel
theorem dX11_strongPairs_13 : decode cX11_strongPairs 13 = .ok (.istore 5, 2) := by decide +kernel
theorem dX11_strongPairs_15 : decode cX11_strongPairs 15 = .ok (.iload 5, 2) := by decide +kernel
theorem dX11_strongPairs_17 : decode cX11_strongPairs 17 = .ok (.iload 4, 2) := by decide +kernel
theorem dX11_strongPairs_19 : decode cX11_strongPairs 19 = .ok (.if_icmp .ge 50, 3) := by decide +kernel
theorem dX11_strongPairs_22 : decode cX11_strongPairs 22 = .ok (.aload_n 0, 1) := by decide +kernel
theorem dX11_strongPairs_23 : decode cX11_strongPairs 23 = .ok (.getfield 44, 3) := by decide +kernel
theorem dX11_strongPairs_26 : decode cX11_strongPairs 26 = .ok (.getfield 257, 3) := by decide +kernel
theorem dX11_strongPairs_29 : decode cX11_strongPairs 29 = .ok (.aload_n 0, 1) := by decide +kernel
theorem dX11_strongPairs_30 : decode cX11_strongPairs 30 = .ok (.getfield 48, 3) := by decide +kernel
theorem dX11_strongPairs_33 : decode cX11_strongPairs 33 = .ok (.iload 5, 2) := by decide +kernel
theorem dX11_strongPairs_35 : decode cX11_strongPairs 35 = .ok (.iaload, 1) := by decide +kernel
theorem dX11_strongPairs_36 : decode cX11_strongPairs 36 = .ok (.iaload, 1) := by decide +kernel
theorem dX11_strongPairs_37 : decode cX11_strongPairs 37 = .ok (.aload_n 0, 1) := by decide +kernel
theorem dX11_strongPairs_38 : decode cX11_strongPairs 38 = .ok (.getfield 44, 3) := by decide +kernel
theorem dX11_strongPairs_41 : decode cX11_strongPairs 41 = .ok (.getfield 257, 3) := by decide +kernel
theorem dX11_strongPairs_44 : decode cX11_strongPairs 44 = .ok (.aload_n 0, 1) := by decide +kernel
theorem dX11_strongPairs_45 : decode cX11_strongPairs 45 = .ok (.getfield 48, 3) := by decide +kernel
theorem dX11_strongPairs_48 : decode cX11_strongPairs 48 = .ok (.iload 4, 2) := by decide +kernel
theorem dX11_strongPairs_50 : decode cX11_strongPairs 50 = .ok (.iaload, 1) := by decide +kernel
theorem dX11_strongPairs_51 : decode cX11_strongPairs 51 = .ok (.iaload, 1) := by decide +kernel
theorem dX11_strongPairs_52 : decode cX11_strongPairs 52 = .ok (.iadd, 1) := by decide +kernel
theorem dX11_strongPairs_53 : decode cX11_strongPairs 53 = .ok (.iload_n 2, 1) := by decide +kernel
theorem dX11_strongPairs_54 : decode cX11_strongPairs 54 = .ok (.if_icmp .lt 9, 3) := by decide +kernel
theorem dX11_strongPairs_57 : decode cX11_strongPairs 57 = .ok (.iinc 3 1, 3) := by decide +kernel
theorem dX11_strongPairs_60 : decode cX11_strongPairs 60 = .ok (.iinc 4 (-1), 3) := by decide +kernel
theorem dX11_strongPairs_63 : decode cX11_strongPairs 63 = .ok (.iinc 5 1, 3) := by decide +kernel
theorem dX11_strongPairs_66 : decode cX11_strongPairs 66 = .ok (.goto (-51), 3) := by decide +kernel
theorem dX11_strongPairs_69 : decode cX11_strongPairs 69 = .ok (.iload_n 3, 1) := by decide +kernel
theorem dX11_strongPairs_70 : decode cX11_strongPairs 70 = .ok (.ireturn, 1) := by decide +kernel
theorem dX11_sortPicked_0 : decode cX11_sortPicked 0 = .ok (.iconst 1, 1) := by decide +kernel
theorem dX11_sortPicked_1 : decode cX11_sortPicked 1 = .ok (.istore_n 2, 1) := by decide +kernel
theorem dX11_sortPicked_2 : decode cX11_sortPicked 2 = .ok (.iload_n 2, 1) := by decide +kernel
theorem dX11_sortPicked_3 : decode cX11_sortPicked 3 = .ok (.iload_n 1, 1) := by decide +kernel
theorem dX11_sortPicked_4 : decode cX11_sortPicked 4 = .ok (.if_icmp .ge 83, 3) := by decide +kernel
theorem dX11_sortPicked_7 : decode cX11_sortPicked 7 = .ok (.aload_n 0, 1) := by decide +kernel
theorem dX11_sortPicked_8 : decode cX11_sortPicked 8 = .ok (.getfield 48, 3) := by decide +kernel
theorem dX11_sortPicked_11 : decode cX11_sortPicked 11 = .ok (.iload_n 2, 1) := by decide +kernel
theorem dX11_sortPicked_12 : decode cX11_sortPicked 12 = .ok (.iaload, 1) := by decide +kernel
theorem dX11_sortPicked_13 : decode cX11_sortPicked 13 = .ok (.istore_n 3, 1) := by decide +kernel
theorem dX11_sortPicked_14 : decode cX11_sortPicked 14 = .ok (.iload_n 2, 1) := by decide +kernel
theorem dX11_sortPicked_15 : decode cX11_sortPicked 15 = .ok (.istore 4, 2) := by decide +kernel
theorem dX11_sortPicked_17 : decode cX11_sortPicked 17 = .ok (.iload 4, 2) := by decide +kernel
theorem dX11_sortPicked_19 : decode cX11_sortPicked 19 = .ok (.ifCond .le 54, 3) := by decide +kernel
theorem dX11_sortPicked_22 : decode cX11_sortPicked 22 = .ok (.aload_n 0, 1) := by decide +kernel
theorem dX11_sortPicked_23 : decode cX11_sortPicked 23 = .ok (.getfield 44, 3) := by decide +kernel
theorem dX11_sortPicked_26 : decode cX11_sortPicked 26 = .ok (.getfield 257, 3) := by decide +kernel
theorem dX11_sortPicked_29 : decode cX11_sortPicked 29 = .ok (.aload_n 0, 1) := by decide +kernel
theorem dX11_sortPicked_30 : decode cX11_sortPicked 30 = .ok (.getfield 48, 3) := by decide +kernel
theorem dX11_sortPicked_33 : decode cX11_sortPicked 33 = .ok (.iload 4, 2) := by decide +kernel
theorem dX11_sortPicked_35 : decode cX11_sortPicked 35 = .ok (.iconst 1, 1) := by decide +kernel
theorem dX11_sortPicked_36 : decode cX11_sortPicked 36 = .ok (.isub, 1) := by decide +kernel
theorem dX11_sortPicked_37 : decode cX11_sortPicked 37 = .ok (.iaload, 1) := by decide +kernel
theorem dX11_sortPicked_38 : decode cX11_sortPicked 38 = .ok (.iaload, 1) := by decide +kernel
theorem dX11_sortPicked_39 : decode cX11_sortPicked 39 = .ok (.aload_n 0, 1) := by decide +kernel
theorem dX11_sortPicked_40 : decode cX11_sortPicked 40 = .ok (.getfield 44, 3) := by decide +kernel
theorem dX11_sortPicked_43 : decode cX11_sortPicked 43 = .ok (.getfield 257, 3) := by decide +kernel
theorem dX11_sortPicked_46 : decode cX11_sortPicked 46 = .ok (.iload_n 3, 1) := by decide +kernel
theorem dX11_sortPicked_47 : decode cX11_sortPicked 47 = .ok (.iaload, 1) := by decide +kernel
theorem dX11_sortPicked_48 : decode cX11_sortPicked 48 = .ok (.if_icmp .le 25, 3) := by decide +kernel
theorem dX11_sortPicked_51 : decode cX11_sortPicked 51 = .ok (.aload_n 0, 1) := by decide +kernel
theorem dX11_sortPicked_52 : decode cX11_sortPicked 52 = .ok (.getfield 48, 3) := by decide +kernel
theorem dX11_sortPicked_55 : decode cX11_sortPicked 55 = .ok (.iload 4, 2) := by decide +kernel
theorem dX11_sortPicked_57 : decode cX11_sortPicked 57 = .ok (.aload_n 0, 1) := by decide +kernel
theorem dX11_sortPicked_58 : decode cX11_sortPicked 58 = .ok (.getfield 48, 3) := by decide +kernel
theorem dX11_sortPicked_61 : decode cX11_sortPicked 61 = .ok (.iload 4, 2) := by decide +kernel
theorem dX11_sortPicked_63 : decode cX11_sortPicked 63 = .ok (.iconst 1, 1) := by decide +kernel
theorem dX11_sortPicked_64 : decode cX11_sortPicked 64 = .ok (.isub, 1) := by decide +kernel
theorem dX11_sortPicked_65 : decode cX11_sortPicked 65 = .ok (.iaload, 1) := by decide +kernel
theorem dX11_sortPicked_66 : decode cX11_sortPicked 66 = .ok (.iastore, 1) := by decide +kernel
theorem dX11_sortPicked_67 : decode cX11_sortPicked 67 = .ok (.iinc 4 (-1), 3) := by decide +kernel
theorem dX11_sortPicked_70 : decode cX11_sortPicked 70 = .ok (.goto (-53), 3) := by decide +kernel
theorem dX11_sortPicked_73 : decode cX11_sortPicked 73 = .ok (.aload_n 0, 1) := by decide +kernel
theorem dX11_sortPicked_74 : decode cX11_sortPicked 74 = .ok (.getfield 48, 3) := by decide +kernel
theorem dX11_sortPicked_77 : decode cX11_sortPicked 77 = .ok (.iload 4, 2) := by decide +kernel
theorem dX11_sortPicked_79 : decode cX11_sortPicked 79 = .ok (.iload_n 3, 1) := by decide +kernel
theorem dX11_sortPicked_80 : decode cX11_sortPicked 80 = .ok (.iastore, 1) := by decide +kernel
theorem dX11_sortPicked_81 : decode cX11_sortPicked 81 = .ok (.iinc 2 1, 3) := by decide +kernel
theorem dX11_sortPicked_84 : decode cX11_sortPicked 84 = .ok (.goto (-82), 3) := by decide +kernel
theorem dX11_sortPicked_87 : decode cX11_sortPicked 87 = .ok (.return_, 1) := by decide +kernel
theorem dX11_filled_0 : decode cX11_filled 0 = .ok (.aload_n 0, 1) := by decide +kernel
theorem dX11_filled_1 : decode cX11_filled 1 = .ok (.getfield 19, 3) := by decide +kernel
theorem dX11_filled_4 : decode cX11_filled 4 = .ok (.getfield 188, 3) := by decide +kernel
theorem dX11_filled_7 : decode cX11_filled 7 = .ok (.iload_n 1, 1) := by decide +kernel
theorem dX11_filled_8 : decode cX11_filled 8 = .ok (.iload_n 2, 1) := by decide +kernel
theorem dX11_filled_9 : decode cX11_filled 9 = .ok (.aload_n 0, 1) := by decide +kernel
theorem dX11_filled_10 : decode cX11_filled 10 = .ok (.getfield 44, 3) := by decide +kernel
theorem dX11_filled_13 : decode cX11_filled 13 = .ok (.invokevirtual 333, 3) := by decide +kernel
theorem dX11_filled_16 : decode cX11_filled 16 = .ok (.aload_n 0, 1) := by decide +kernel
theorem dX11_filled_17 : decode cX11_filled 17 = .ok (.getfield 10, 3) := by decide +kernel
theorem dX11_filled_20 : decode cX11_filled 20 = .ok (.iload_n 2, 1) := by decide +kernel
theorem dX11_filled_21 : decode cX11_filled 21 = .ok (.invokevirtual 305, 3) := by decide +kernel
theorem dX11_filled_24 : decode cX11_filled 24 = .ok (.imul, 1) := by decide +kernel
theorem dX11_filled_25 : decode cX11_filled 25 = .ok (.bipush 100, 2) := by decide +kernel
theorem dX11_filled_27 : decode cX11_filled 27 = .ok (.idiv, 1) := by decide +kernel
theorem dX11_filled_28 : decode cX11_filled 28 = .ok (.ireturn, 1) := by decide +kernel
theorem dX11_bleed_0 : decode cX11_bleed 0 = .ok (.aload_n 0, 1) := by decide +kernel
theorem dX11_bleed_1 : decode cX11_bleed 1 = .ok (.iload_n 1, 1) := by decide +kernel
theorem dX11_bleed_2 : decode cX11_bleed 2 = .ok (.iconst 0, 1) := by decide +kernel
theorem dX11_bleed_3 : decode cX11_bleed 3 = .ok (.invokevirtual 406, 3) := by decide +kernel
theorem dX11_bleed_6 : decode cX11_bleed 6 = .ok (.istore_n 3, 1) := by decide +kernel
theorem dX11_bleed_7 : decode cX11_bleed 7 = .ok (.iload_n 3, 1) := by decide +kernel
theorem dX11_bleed_8 : decode cX11_bleed 8 = .ok (.istore 4, 2) := by decide +kernel
theorem dX11_bleed_10 : decode cX11_bleed 10 = .ok (.iconst 0, 1) := by decide +kernel
theorem dX11_bleed_11 : decode cX11_bleed 11 = .ok (.istore 5, 2) := by decide +kernel
theorem dX11_bleed_13 : decode cX11_bleed 13 = .ok (.iconst 0, 1) := by decide +kernel
theorem dX11_bleed_14 : decode cX11_bleed 14 = .ok (.istore 6, 2) := by decide +kernel
theorem dX11_bleed_16 : decode cX11_bleed 16 = .ok (.iload 6, 2) := by decide +kernel
theorem dX11_bleed_18 : decode cX11_bleed 18 = .ok (.iload_n 2, 1) := by decide +kernel
theorem dX11_bleed_19 : decode cX11_bleed 19 = .ok (.if_icmp .ge 41, 3) := by decide +kernel
theorem dX11_bleed_22 : decode cX11_bleed 22 = .ok (.aload_n 0, 1) := by decide +kernel
theorem dX11_bleed_23 : decode cX11_bleed 23 = .ok (.iload_n 1, 1) := by decide +kernel
theorem dX11_bleed_24 : decode cX11_bleed 24 = .ok (.iload 6, 2) := by decide +kernel
theorem dX11_bleed_26 : decode cX11_bleed 26 = .ok (.invokevirtual 406, 3) := by decide +kernel
theorem dX11_bleed_29 : decode cX11_bleed 29 = .ok (.istore 7, 2) := by decide +kernel
theorem dX11_bleed_31 : decode cX11_bleed 31 = .ok (.iload_n 3, 1) := by decide +kernel
theorem dX11_bleed_32 : decode cX11_bleed 32 = .ok (.iload 7, 2) := by decide +kernel
theorem dX11_bleed_34 : decode cX11_bleed 34 = .ok (.invokestatic 409, 3) := by decide +kernel
theorem dX11_bleed_37 : decode cX11_bleed 37 = .ok (.istore_n 3, 1) := by decide +kernel
theorem dX11_bleed_38 : decode cX11_bleed 38 = .ok (.iload 4, 2) := by decide +kernel
theorem dX11_bleed_40 : decode cX11_bleed 40 = .ok (.iload 7, 2) := by decide +kernel
theorem dX11_bleed_42 : decode cX11_bleed 42 = .ok (.invokestatic 414, 3) := by decide +kernel
theorem dX11_bleed_45 : decode cX11_bleed 45 = .ok (.istore 4, 2) := by decide +kernel
theorem dX11_bleed_47 : decode cX11_bleed 47 = .ok (.iload 5, 2) := by decide +kernel
theorem dX11_bleed_49 : decode cX11_bleed 49 = .ok (.iload 7, 2) := by decide +kernel
theorem dX11_bleed_51 : decode cX11_bleed 51 = .ok (.iadd, 1) := by decide +kernel
theorem dX11_bleed_52 : decode cX11_bleed 52 = .ok (.istore 5, 2) := by decide +kernel
theorem dX11_bleed_54 : decode cX11_bleed 54 = .ok (.iinc 6 1, 3) := by decide +kernel
theorem dX11_bleed_57 : decode cX11_bleed 57 = .ok (.goto (-41), 3) := by decide +kernel
theorem dX11_bleed_60 : decode cX11_bleed 60 = .ok (.aload_n 0, 1) := by decide +kernel
theorem dX11_bleed_61 : decode cX11_bleed 61 = .ok (.iload 5, 2) := by decide +kernel
theorem dX11_bleed_63 : decode cX11_bleed 63 = .ok (.iload_n 2, 1) := by decide +kernel
theorem dX11_bleed_64 : decode cX11_bleed 64 = .ok (.iload_n 3, 1) := by decide +kernel
theorem dX11_bleed_65 : decode cX11_bleed 65 = .ok (.imul, 1) := by decide +kernel
theorem dX11_bleed_66 : decode cX11_bleed 66 = .ok (.isub, 1) := by decide +kernel
theorem dX11_bleed_67 : decode cX11_bleed 67 = .ok (.putfield 80, 3) := by decide +kernel
theorem dX11_bleed_70 : decode cX11_bleed 70 = .ok (.aload_n 0, 1) := by decide +kernel
theorem dX11_bleed_71 : decode cX11_bleed 71 = .ok (.getfield 19, 3) := by decide +kernel
theorem dX11_bleed_74 : decode cX11_bleed 74 = .ok (.getfield 128, 3) := by decide +kernel
theorem dX11_bleed_77 : decode cX11_bleed 77 = .ok (.getfield 225, 3) := by decide +kernel
theorem dX11_bleed_80 : decode cX11_bleed 80 = .ok (.iconst 3, 1) := by decide +kernel
theorem dX11_bleed_81 : decode cX11_bleed 81 = .ok (.iaload, 1) := by decide +kernel
theorem dX11_bleed_82 : decode cX11_bleed 82 = .ok (.istore 6, 2) := by decide +kernel
theorem dX11_bleed_84 : decode cX11_bleed 84 = .ok (.iload 4, 2) := by decide +kernel
theorem dX11_bleed_86 : decode cX11_bleed 86 = .ok (.iload_n 3, 1) := by decide +kernel
theorem dX11_bleed_87 : decode cX11_bleed 87 = .ok (.isub, 1) := by decide +kernel
theorem dX11_bleed_88 : decode cX11_bleed 88 = .ok (.iload 6, 2) := by decide +kernel
theorem dX11_bleed_90 : decode cX11_bleed 90 = .ok (.iadd, 1) := by decide +kernel
theorem dX11_bleed_91 : decode cX11_bleed 91 = .ok (.iconst 1, 1) := by decide +kernel
theorem dX11_bleed_92 : decode cX11_bleed 92 = .ok (.isub, 1) := by decide +kernel
theorem dX11_bleed_93 : decode cX11_bleed 93 = .ok (.iload 6, 2) := by decide +kernel
theorem dX11_bleed_95 : decode cX11_bleed 95 = .ok (.invokestatic 219, 3) := by decide +kernel
theorem dX11_bleed_98 : decode cX11_bleed 98 = .ok (.ireturn, 1) := by decide +kernel
