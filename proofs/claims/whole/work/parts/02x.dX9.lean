theorem dX9_init_0 : decode cX9_init 0 = .ok (.aload_n 0, 1) := by decide +kernel
theorem dX9_init_1 : decode cX9_init 1 = .ok (.invokespecial 3, 3) := by decide +kernel
theorem dX9_init_4 : decode cX9_init 4 = .ok (.aload_n 0, 1) := by decide +kernel
theorem dX9_init_5 : decode cX9_init 5 = .ok (.bipush 12, 2) := by decide +kernel
theorem dX9_init_7 : decode cX9_init 7 = .ok (.newarray .int, 2) := by decide +kernel
theorem dX9_init_9 : decode cX9_init 9 = .ok (.putfield 11, 3) := by decide +kernel
theorem dX9_init_12 : decode cX9_init 12 = .ok (.aload_n 0, 1) := by decide +kernel
theorem dX9_init_13 : decode cX9_init 13 = .ok (.bipush 12, 2) := by decide +kernel
theorem dX9_init_15 : decode cX9_init 15 = .ok (.newarray .int, 2) := by decide +kernel
theorem dX9_init_17 : decode cX9_init 17 = .ok (.putfield 17, 3) := by decide +kernel
theorem dX9_init_20 : decode cX9_init 20 = .ok (.aload_n 0, 1) := by decide +kernel
theorem dX9_init_21 : decode cX9_init 21 = .ok (.sipush 780, 3) := by decide +kernel
theorem dX9_init_24 : decode cX9_init 24 = .ok (.newarray .int, 2) := by decide +kernel
theorem dX9_init_26 : decode cX9_init 26 = .ok (.putfield 20, 3) := by decide +kernel
theorem dX9_init_29 : decode cX9_init 29 = .ok (.aload_n 0, 1) := by decide +kernel
theorem dX9_init_30 : decode cX9_init 30 = .ok (.sipush 780, 3) := by decide +kernel
theorem dX9_init_33 : decode cX9_init 33 = .ok (.newarray .int, 2) := by decide +kernel
theorem dX9_init_35 : decode cX9_init 35 = .ok (.putfield 23, 3) := by decide +kernel
theorem dX9_init_38 : decode cX9_init 38 = .ok (.aload_n 0, 1) := by decide +kernel
theorem dX9_init_39 : decode cX9_init 39 = .ok (.sipush 128, 3) := by decide +kernel
theorem dX9_init_42 : decode cX9_init 42 = .ok (.newarray .int, 2) := by decide +kernel
theorem dX9_init_44 : decode cX9_init 44 = .ok (.putfield 26, 3) := by decide +kernel
theorem dX9_init_47 : decode cX9_init 47 = .ok (.return_, 1) := by decide +kernel
theorem dX9_findOrder_0 : decode cX9_findOrder 0 = .ok (.iconst 0, 1) := by decide +kernel
theorem dX9_findOrder_1 : decode cX9_findOrder 1 = .ok (.istore_n 2, 1) := by decide +kernel
theorem dX9_findOrder_2 : decode cX9_findOrder 2 = .ok (.iload_n 2, 1) := by decide +kernel
theorem dX9_findOrder_3 : decode cX9_findOrder 3 = .ok (.aload_n 0, 1) := by decide +kernel
theorem dX9_findOrder_4 : decode cX9_findOrder 4 = .ok (.getfield 26, 3) := by decide +kernel
theorem dX9_findOrder_7 : decode cX9_findOrder 7 = .ok (.arraylength, 1) := by decide +kernel
theorem dX9_findOrder_8 : decode cX9_findOrder 8 = .ok (.if_icmp .ge 16, 3) := by decide +kernel
theorem dX9_findOrder_11 : decode cX9_findOrder 11 = .ok (.aload_n 0, 1) := by decide +kernel
theorem dX9_findOrder_12 : decode cX9_findOrder 12 = .ok (.getfield 26, 3) := by decide +kernel
theorem dX9_findOrder_15 : decode cX9_findOrder 15 = .ok (.iload_n 2, 1) := by decide +kernel
theorem dX9_findOrder_16 : decode cX9_findOrder 16 = .ok (.iconst 0, 1) := by decide +kernel
theorem dX9_findOrder_17 : decode cX9_findOrder 17 = .ok (.iastore, 1) := by decide +kernel
theorem dX9_findOrder_18 : decode cX9_findOrder 18 = .ok (.iinc 2 1, 3) := by decide +kernel
theorem dX9_findOrder_21 : decode cX9_findOrder 21 = .ok (.goto (-19), 3) := by decide +kernel
theorem dX9_findOrder_24 : decode cX9_findOrder 24 = .ok (.aload_n 0, 1) := by decide +kernel
theorem dX9_findOrder_25 : decode cX9_findOrder 25 = .ok (.invokevirtual 29, 3) := by decide +kernel
theorem dX9_findOrder_28 : decode cX9_findOrder 28 = .ok (.aload_n 0, 1) := by decide +kernel
theorem dX9_findOrder_29 : decode cX9_findOrder 29 = .ok (.aload_n 1, 1) := by decide +kernel
theorem dX9_findOrder_30 : decode cX9_findOrder 30 = .ok (.iconst 0, 1) := by decide +kernel
theorem dX9_findOrder_31 : decode cX9_findOrder 31 = .ok (.iconst 0, 1) := by decide +kernel
theorem dX9_findOrder_32 : decode cX9_findOrder 32 = .ok (.invokevirtual 32, 3) := by decide +kernel
theorem dX9_findOrder_35 : decode cX9_findOrder 35 = .ok (.ifCond .ne 5, 3) := by decide +kernel
theorem dX9_findOrder_38 : decode cX9_findOrder 38 = .ok (.iconst 0, 1) := by decide +kernel
theorem dX9_findOrder_39 : decode cX9_findOrder 39 = .ok (.ireturn, 1) := by decide +kernel
theorem dX9_findOrder_40 : decode cX9_findOrder 40 = .ok (.aload_n 0, 1) := by decide +kernel
theorem dX9_findOrder_41 : decode cX9_findOrder 41 = .ok (.aload_n 1, 1) := by decide +kernel
theorem dX9_findOrder_42 : decode cX9_findOrder 42 = .ok (.getfield 36, 3) := by decide +kernel
theorem dX9_findOrder_45 : decode cX9_findOrder 45 = .ok (.putfield 40, 3) := by decide +kernel
theorem dX9_findOrder_48 : decode cX9_findOrder 48 = .ok (.aload_n 0, 1) := by decide +kernel
theorem dX9_findOrder_49 : decode cX9_findOrder 49 = .ok (.getfield 17, 3) := by decide +kernel
theorem dX9_findOrder_52 : decode cX9_findOrder 52 = .ok (.iconst 0, 1) := by decide +kernel
theorem dX9_findOrder_53 : decode cX9_findOrder 53 = .ok (.aload_n 0, 1) := by decide +kernel
theorem dX9_findOrder_54 : decode cX9_findOrder 54 = .ok (.getfield 11, 3) := by decide +kernel
theorem dX9_findOrder_57 : decode cX9_findOrder 57 = .ok (.iconst 0, 1) := by decide +kernel
theorem dX9_findOrder_58 : decode cX9_findOrder 58 = .ok (.aload_n 0, 1) := by decide +kernel
theorem dX9_findOrder_59 : decode cX9_findOrder 59 = .ok (.getfield 40, 3) := by decide +kernel
theorem dX9_findOrder_62 : decode cX9_findOrder 62 = .ok (.invokestatic 41, 3) := by decide +kernel
theorem dX9_findOrder_65 : decode cX9_findOrder 65 = .ok (.iconst 1, 1) := by decide +kernel
theorem dX9_findOrder_66 : decode cX9_findOrder 66 = .ok (.ireturn, 1) := by decide +kernel
theorem dX9_goodSteps_0 : decode cX9_goodSteps 0 = .ok (.aload_n 0, 1) := by decide +kernel
theorem dX9_goodSteps_1 : decode cX9_goodSteps 1 = .ok (.invokevirtual 29, 3) := by decide +kernel
theorem dX9_goodSteps_4 : decode cX9_goodSteps 4 = .ok (.iconst 0, 1) := by decide +kernel
theorem dX9_goodSteps_5 : decode cX9_goodSteps 5 = .ok (.istore 4, 2) := by decide +kernel
theorem dX9_goodSteps_7 : decode cX9_goodSteps 7 = .ok (.iconst 0, 1) := by decide +kernel
theorem dX9_goodSteps_8 : decode cX9_goodSteps 8 = .ok (.istore 5, 2) := by decide +kernel
theorem dX9_goodSteps_10 : decode cX9_goodSteps 10 = .ok (.iload 5, 2) := by decide +kernel
theorem dX9_goodSteps_12 : decode cX9_goodSteps 12 = .ok (.iload_n 3, 1) := by decide +kernel
theorem dX9_goodSteps_13 : decode cX9_goodSteps 13 = .ok (.if_icmp .ge 66, 3) := by decide +kernel
theorem dX9_goodSteps_16 : decode cX9_goodSteps 16 = .ok (.aload_n 2, 1) := by decide +kernel
theorem dX9_goodSteps_17 : decode cX9_goodSteps 17 = .ok (.iload 5, 2) := by decide +kernel
theorem dX9_goodSteps_19 : decode cX9_goodSteps 19 = .ok (.invokevirtual 47, 3) := by decide +kernel
theorem dX9_goodSteps_22 : decode cX9_goodSteps 22 = .ok (.istore 6, 2) := by decide +kernel
theorem dX9_goodSteps_24 : decode cX9_goodSteps 24 = .ok (.iload 6, 2) := by decide +kernel
theorem dX9_goodSteps_26 : decode cX9_goodSteps 26 = .ok (.ifCond .lt 35, 3) := by decide +kernel
theorem dX9_goodSteps_29 : decode cX9_goodSteps 29 = .ok (.iload 6, 2) := by decide +kernel
theorem dX9_goodSteps_31 : decode cX9_goodSteps 31 = .ok (.aload_n 1, 1) := by decide +kernel
theorem dX9_goodSteps_32 : decode cX9_goodSteps 32 = .ok (.getfield 36, 3) := by decide +kernel
theorem dX9_goodSteps_35 : decode cX9_goodSteps 35 = .ok (.if_icmp .ge 26, 3) := by decide +kernel
theorem dX9_goodSteps_38 : decode cX9_goodSteps 38 = .ok (.aload_n 1, 1) := by decide +kernel
theorem dX9_goodSteps_39 : decode cX9_goodSteps 39 = .ok (.iload 4, 2) := by decide +kernel
theorem dX9_goodSteps_41 : decode cX9_goodSteps 41 = .ok (.iload 6, 2) := by decide +kernel
theorem dX9_goodSteps_43 : decode cX9_goodSteps 43 = .ok (.invokestatic 53, 3) := by decide +kernel
theorem dX9_goodSteps_46 : decode cX9_goodSteps 46 = .ok (.ifCond .eq 15, 3) := by decide +kernel
theorem dX9_goodSteps_49 : decode cX9_goodSteps 49 = .ok (.aload_n 0, 1) := by decide +kernel
theorem dX9_goodSteps_50 : decode cX9_goodSteps 50 = .ok (.aload_n 1, 1) := by decide +kernel
theorem dX9_goodSteps_51 : decode cX9_goodSteps 51 = .ok (.iload 5, 2) := by decide +kernel
theorem dX9_goodSteps_53 : decode cX9_goodSteps 53 = .ok (.iload 6, 2) := by decide +kernel
theorem dX9_goodSteps_55 : decode cX9_goodSteps 55 = .ok (.invokevirtual 56, 3) := by decide +kernel
theorem dX9_goodSteps_58 : decode cX9_goodSteps 58 = .ok (.ifCond .ne 6, 3) := by decide +kernel
theorem dX9_goodSteps_61 : decode cX9_goodSteps 61 = .ok (.iload 5, 2) := by decide +kernel
theorem dX9_goodSteps_63 : decode cX9_goodSteps 63 = .ok (.ireturn, 1) := by decide +kernel
theorem dX9_goodSteps_64 : decode cX9_goodSteps 64 = .ok (.iload 4, 2) := by decide +kernel
theorem dX9_goodSteps_66 : decode cX9_goodSteps 66 = .ok (.iconst 1, 1) := by decide +kernel
theorem dX9_goodSteps_67 : decode cX9_goodSteps 67 = .ok (.iload 6, 2) := by decide +kernel
theorem dX9_goodSteps_69 : decode cX9_goodSteps 69 = .ok (.ishl, 1) := by decide +kernel
theorem dX9_goodSteps_70 : decode cX9_goodSteps 70 = .ok (.ior, 1) := by decide +kernel
theorem dX9_goodSteps_71 : decode cX9_goodSteps 71 = .ok (.istore 4, 2) := by decide +kernel
theorem dX9_goodSteps_73 : decode cX9_goodSteps 73 = .ok (.iinc 5 1, 3) := by decide +kernel
theorem dX9_goodSteps_76 : decode cX9_goodSteps 76 = .ok (.goto (-66), 3) := by decide +kernel
theorem dX9_goodSteps_79 : decode cX9_goodSteps 79 = .ok (.iload_n 3, 1) := by decide +kernel
theorem dX9_goodSteps_80 : decode cX9_goodSteps 80 = .ok (.ireturn, 1) := by decide +kernel
theorem dX9_begin_0 : decode cX9_begin 0 = .ok (.iconst 0, 1) := by decide +kernel
theorem dX9_begin_1 : decode cX9_begin 1 = .ok (.istore_n 1, 1) := by decide +kernel
theorem dX9_begin_2 : decode cX9_begin 2 = .ok (.iload_n 1, 1) := by decide +kernel
theorem dX9_begin_3 : decode cX9_begin 3 = .ok (.bipush 60, 2) := by decide +kernel
theorem dX9_begin_5 : decode cX9_begin 5 = .ok (.if_icmp .ge 23, 3) := by decide +kernel
theorem dX9_begin_8 : decode cX9_begin 8 = .ok (.aload_n 0, 1) := by decide +kernel
theorem dX9_begin_9 : decode cX9_begin 9 = .ok (.getfield 20, 3) := by decide +kernel
theorem dX9_begin_12 : decode cX9_begin 12 = .ok (.iload_n 1, 1) := by decide +kernel
theorem dX9_begin_13 : decode cX9_begin 13 = .ok (.iload_n 1, 1) := by decide +kernel
theorem dX9_begin_14 : decode cX9_begin 14 = .ok (.iastore, 1) := by decide +kernel
theorem dX9_begin_15 : decode cX9_begin 15 = .ok (.aload_n 0, 1) := by decide +kernel
theorem dX9_begin_16 : decode cX9_begin 16 = .ok (.getfield 23, 3) := by decide +kernel
theorem dX9_begin_19 : decode cX9_begin 19 = .ok (.iload_n 1, 1) := by decide +kernel
theorem dX9_begin_20 : decode cX9_begin 20 = .ok (.iconst 0, 1) := by decide +kernel
theorem dX9_begin_21 : decode cX9_begin 21 = .ok (.iastore, 1) := by decide +kernel
theorem dX9_begin_22 : decode cX9_begin 22 = .ok (.iinc 1 1, 3) := by decide +kernel
theorem dX9_begin_25 : decode cX9_begin 25 = .ok (.goto (-23), 3) := by decide +kernel
theorem dX9_begin_28 : decode cX9_begin 28 = .ok (.return_, 1) := by decide +kernel
theorem dX9_isNext_0 : decode cX9_isNext 0 = .ok (.iload_n 1, 1) := by decide +kernel
theorem dX9_isNext_1 : decode cX9_isNext 1 = .ok (.iload_n 2, 1) := by decide +kernel
theorem dX9_isNext_2 : decode cX9_isNext 2 = .ok (.ishr, 1) := by decide +kernel
theorem dX9_isNext_3 : decode cX9_isNext 3 = .ok (.iconst 1, 1) := by decide +kernel
theorem dX9_isNext_4 : decode cX9_isNext 4 = .ok (.iand, 1) := by decide +kernel
theorem dX9_isNext_5 : decode cX9_isNext 5 = .ok (.ifCond .ne 20, 3) := by decide +kernel
theorem dX9_isNext_8 : decode cX9_isNext 8 = .ok (.aload_n 0, 1) := by decide +kernel
theorem dX9_isNext_9 : decode cX9_isNext 9 = .ok (.getfield 59, 3) := by decide +kernel
theorem dX9_isNext_12 : decode cX9_isNext 12 = .ok (.iload_n 2, 1) := by decide +kernel
theorem dX9_isNext_13 : decode cX9_isNext 13 = .ok (.iaload, 1) := by decide +kernel
theorem dX9_isNext_14 : decode cX9_isNext 14 = .ok (.iload_n 1, 1) := by decide +kernel
theorem dX9_isNext_15 : decode cX9_isNext 15 = .ok (.iconst (-1), 1) := by decide +kernel
theorem dX9_isNext_16 : decode cX9_isNext 16 = .ok (.ixor, 1) := by decide +kernel
theorem dX9_isNext_17 : decode cX9_isNext 17 = .ok (.iand, 1) := by decide +kernel
theorem dX9_isNext_18 : decode cX9_isNext 18 = .ok (.ifCond .ne 7, 3) := by decide +kernel
theorem dX9_isNext_21 : decode cX9_isNext 21 = .ok (.iconst 1, 1) := by decide +kernel
theorem dX9_isNext_22 : decode cX9_isNext 22 = .ok (.goto 4, 3) := by decide +kernel
theorem dX9_isNext_25 : decode cX9_isNext 25 = .ok (.iconst 0, 1) := by decide +kernel
theorem dX9_isNext_26 : decode cX9_isNext 26 = .ok (.ireturn, 1) := by decide +kernel
theorem dX9_goesOn_0 : decode cX9_goesOn 0 = .ok (.iload_n 3, 1) := by decide +kernel
theorem dX9_goesOn_1 : decode cX9_goesOn 1 = .ok (.aload_n 1, 1) := by decide +kernel
theorem dX9_goesOn_2 : decode cX9_goesOn 2 = .ok (.getfield 36, 3) := by decide +kernel
theorem dX9_goesOn_5 : decode cX9_goesOn 5 = .ok (.if_icmp .lt 5, 3) := by decide +kernel
theorem dX9_goesOn_8 : decode cX9_goesOn 8 = .ok (.iconst 1, 1) := by decide +kernel
theorem dX9_goesOn_9 : decode cX9_goesOn 9 = .ok (.ireturn, 1) := by decide +kernel
theorem dX9_goesOn_10 : decode cX9_goesOn 10 = .ok (.iconst 0, 1) := by decide +kernel
theorem dX9_goesOn_11 : decode cX9_goesOn 11 = .ok (.istore 4, 2) := by decide +kernel
theorem dX9_goesOn_13 : decode cX9_goesOn 13 = .ok (.iload 4, 2) := by decide +kernel
theorem dX9_goesOn_15 : decode cX9_goesOn 15 = .ok (.aload_n 1, 1) := by decide +kernel
theorem dX9_goesOn_16 : decode cX9_goesOn 16 = .ok (.getfield 36, 3) := by decide +kernel
theorem dX9_goesOn_19 : decode cX9_goesOn 19 = .ok (.if_icmp .ge 83, 3) := by decide +kernel
theorem dX9_goesOn_22 : decode cX9_goesOn 22 = .ok (.iload_n 2, 1) := by decide +kernel
theorem dX9_goesOn_23 : decode cX9_goesOn 23 = .ok (.iconst 1, 1) := by decide +kernel
theorem dX9_goesOn_24 : decode cX9_goesOn 24 = .ok (.iload 4, 2) := by decide +kernel
theorem dX9_goesOn_26 : decode cX9_goesOn 26 = .ok (.ishl, 1) := by decide +kernel
theorem dX9_goesOn_27 : decode cX9_goesOn 27 = .ok (.ior, 1) := by decide +kernel
theorem dX9_goesOn_28 : decode cX9_goesOn 28 = .ok (.istore 5, 2) := by decide +kernel
theorem dX9_goesOn_30 : decode cX9_goesOn 30 = .ok (.aload_n 1, 1) := by decide +kernel
theorem dX9_goesOn_31 : decode cX9_goesOn 31 = .ok (.iload_n 2, 1) := by decide +kernel
theorem dX9_goesOn_32 : decode cX9_goesOn 32 = .ok (.iload 4, 2) := by decide +kernel
theorem dX9_goesOn_34 : decode cX9_goesOn 34 = .ok (.invokestatic 53, 3) := by decide +kernel
theorem dX9_goesOn_37 : decode cX9_goesOn 37 = .ok (.ifCond .eq 59, 3) := by decide +kernel
theorem dX9_goesOn_40 : decode cX9_goesOn 40 = .ok (.aload_n 0, 1) := by decide +kernel
theorem dX9_goesOn_41 : decode cX9_goesOn 41 = .ok (.iload 5, 2) := by decide +kernel
theorem dX9_goesOn_43 : decode cX9_goesOn 43 = .ok (.invokevirtual 62, 3) := by decide +kernel
theorem dX9_goesOn_46 : decode cX9_goesOn 46 = .ok (.ifCond .ne 50, 3) := by decide +kernel
theorem dX9_goesOn_49 : decode cX9_goesOn 49 = .ok (.aload_n 0, 1) := by decide +kernel
theorem dX9_goesOn_50 : decode cX9_goesOn 50 = .ok (.aload_n 1, 1) := by decide +kernel
theorem dX9_goesOn_51 : decode cX9_goesOn 51 = .ok (.iload_n 3, 1) := by decide +kernel
theorem dX9_goesOn_52 : decode cX9_goesOn 52 = .ok (.iload 4, 2) := by decide +kernel
theorem dX9_goesOn_54 : decode cX9_goesOn 54 = .ok (.invokevirtual 56, 3) := by decide +kernel
theorem dX9_goesOn_57 : decode cX9_goesOn 57 = .ok (.ifCond .eq 39, 3) := by decide +kernel
theorem dX9_goesOn_60 : decode cX9_goesOn 60 = .ok (.aload_n 0, 1) := by decide +kernel
theorem dX9_goesOn_61 : decode cX9_goesOn 61 = .ok (.aload_n 1, 1) := by decide +kernel
theorem dX9_goesOn_62 : decode cX9_goesOn 62 = .ok (.iload 5, 2) := by decide +kernel
theorem dX9_goesOn_64 : decode cX9_goesOn 64 = .ok (.iload_n 3, 1) := by decide +kernel
theorem dX9_goesOn_65 : decode cX9_goesOn 65 = .ok (.iconst 1, 1) := by decide +kernel
theorem dX9_goesOn_66 : decode cX9_goesOn 66 = .ok (.iadd, 1) := by decide +kernel
theorem dX9_goesOn_67 : decode cX9_goesOn 67 = .ok (.invokevirtual 66, 3) := by decide +kernel
theorem dX9_goesOn_70 : decode cX9_goesOn 70 = .ok (.ifCond .ne 26, 3) := by decide +kernel
theorem dX9_goesOn_73 : decode cX9_goesOn 73 = .ok (.aload_n 0, 1) := by decide +kernel
theorem dX9_goesOn_74 : decode cX9_goesOn 74 = .ok (.getfield 17, 3) := by decide +kernel
theorem dX9_goesOn_77 : decode cX9_goesOn 77 = .ok (.iload_n 3, 1) := by decide +kernel
theorem dX9_goesOn_78 : decode cX9_goesOn 78 = .ok (.iload 4, 2) := by decide +kernel
theorem dX9_goesOn_80 : decode cX9_goesOn 80 = .ok (.iastore, 1) := by decide +kernel
theorem dX9_goesOn_81 : decode cX9_goesOn 81 = .ok (.aload_n 0, 1) := by decide +kernel
theorem dX9_goesOn_82 : decode cX9_goesOn 82 = .ok (.aload_n 1, 1) := by decide +kernel
theorem dX9_goesOn_83 : decode cX9_goesOn 83 = .ok (.iload 5, 2) := by decide +kernel
theorem dX9_goesOn_85 : decode cX9_goesOn 85 = .ok (.iload_n 3, 1) := by decide +kernel
theorem dX9_goesOn_86 : decode cX9_goesOn 86 = .ok (.iconst 1, 1) := by decide +kernel
theorem dX9_goesOn_87 : decode cX9_goesOn 87 = .ok (.iadd, 1) := by decide +kernel
theorem dX9_goesOn_88 : decode cX9_goesOn 88 = .ok (.invokevirtual 32, 3) := by decide +kernel
theorem dX9_goesOn_91 : decode cX9_goesOn 91 = .ok (.ifCond .eq 5, 3) := by decide +kernel
theorem dX9_goesOn_94 : decode cX9_goesOn 94 = .ok (.iconst 1, 1) := by decide +kernel
theorem dX9_goesOn_95 : decode cX9_goesOn 95 = .ok (.ireturn, 1) := by decide +kernel
theorem dX9_goesOn_96 : decode cX9_goesOn 96 = .ok (.iinc 4 1, 3) := by decide +kernel
theorem dX9_goesOn_99 : decode cX9_goesOn 99 = .ok (.goto (-86), 3) := by decide +kernel
theorem dX9_goesOn_102 : decode cX9_goesOn 102 = .ok (.aload_n 0, 1) := by decide +kernel
theorem dX9_goesOn_103 : decode cX9_goesOn 103 = .ok (.getfield 26, 3) := by decide +kernel
theorem dX9_goesOn_106 : decode cX9_goesOn 106 = .ok (.iload_n 2, 1) := by decide +kernel
theorem dX9_goesOn_107 : decode cX9_goesOn 107 = .ok (.iconst 5, 1) := by decide +kernel
theorem dX9_goesOn_108 : decode cX9_goesOn 108 = .ok (.ishr, 1) := by decide +kernel
theorem dX9_goesOn_109 : decode cX9_goesOn 109 = .ok (.dup2, 1) := by decide +kernel
theorem dX9_goesOn_110 : decode cX9_goesOn 110 = .ok (.iaload, 1) := by decide +kernel
theorem dX9_goesOn_111 : decode cX9_goesOn 111 = .ok (.iconst 1, 1) := by decide +kernel
theorem dX9_goesOn_112 : decode cX9_goesOn 112 = .ok (.iload_n 2, 1) := by decide +kernel
theorem dX9_goesOn_113 : decode cX9_goesOn 113 = .ok (.bipush 31, 2) := by decide +kernel
theorem dX9_goesOn_115 : decode cX9_goesOn 115 = .ok (.iand, 1) := by decide +kernel
theorem dX9_goesOn_116 : decode cX9_goesOn 116 = .ok (.ishl, 1) := by decide +kernel
theorem dX9_goesOn_117 : decode cX9_goesOn 117 = .ok (.ior, 1) := by decide +kernel
theorem dX9_goesOn_118 : decode cX9_goesOn 118 = .ok (.iastore, 1) := by decide +kernel
theorem dX9_goesOn_119 : decode cX9_goesOn 119 = .ok (.iconst 0, 1) := by decide +kernel
theorem dX9_goesOn_120 : decode cX9_goesOn 120 = .ok (.ireturn, 1) := by decide +kernel
theorem dX9_isDead_0 : decode cX9_isDead 0 = .ok (.aload_n 0, 1) := by decide +kernel
theorem dX9_isDead_1 : decode cX9_isDead 1 = .ok (.getfield 26, 3) := by decide +kernel
theorem dX9_isDead_4 : decode cX9_isDead 4 = .ok (.iload_n 1, 1) := by decide +kernel
theorem dX9_isDead_5 : decode cX9_isDead 5 = .ok (.iconst 5, 1) := by decide +kernel
theorem dX9_isDead_6 : decode cX9_isDead 6 = .ok (.ishr, 1) := by decide +kernel
theorem dX9_isDead_7 : decode cX9_isDead 7 = .ok (.iaload, 1) := by decide +kernel
theorem dX9_isDead_8 : decode cX9_isDead 8 = .ok (.iload_n 1, 1) := by decide +kernel
theorem dX9_isDead_9 : decode cX9_isDead 9 = .ok (.bipush 31, 2) := by decide +kernel
theorem dX9_isDead_11 : decode cX9_isDead 11 = .ok (.iand, 1) := by decide +kernel
theorem dX9_isDead_12 : decode cX9_isDead 12 = .ok (.ishr, 1) := by decide +kernel
theorem dX9_isDead_13 : decode cX9_isDead 13 = .ok (.iconst 1, 1) := by decide +kernel
theorem dX9_isDead_14 : decode cX9_isDead 14 = .ok (.iand, 1) := by decide +kernel
theorem dX9_isDead_15 : decode cX9_isDead 15 = .ok (.ifCond .eq 7, 3) := by decide +kernel
theorem dX9_isDead_18 : decode cX9_isDead 18 = .ok (.iconst 1, 1) := by decide +kernel
theorem dX9_isDead_19 : decode cX9_isDead 19 = .ok (.goto 4, 3) := by decide +kernel
theorem dX9_isDead_22 : decode cX9_isDead 22 = .ok (.iconst 0, 1) := by decide +kernel
theorem dX9_isDead_23 : decode cX9_isDead 23 = .ok (.ireturn, 1) := by decide +kernel
theorem dX9_spoilsRest_0 : decode cX9_spoilsRest 0 = .ok (.iconst 0, 1) := by decide +kernel
theorem dX9_spoilsRest_1 : decode cX9_spoilsRest 1 = .ok (.istore 4, 2) := by decide +kernel
theorem dX9_spoilsRest_3 : decode cX9_spoilsRest 3 = .ok (.iload 4, 2) := by decide +kernel
theorem dX9_spoilsRest_5 : decode cX9_spoilsRest 5 = .ok (.aload_n 1, 1) := by decide +kernel
theorem dX9_spoilsRest_6 : decode cX9_spoilsRest 6 = .ok (.getfield 36, 3) := by decide +kernel
theorem dX9_spoilsRest_9 : decode cX9_spoilsRest 9 = .ok (.if_icmp .ge 31, 3) := by decide +kernel
theorem dX9_spoilsRest_12 : decode cX9_spoilsRest 12 = .ok (.iload_n 2, 1) := by decide +kernel
theorem dX9_spoilsRest_13 : decode cX9_spoilsRest 13 = .ok (.iload 4, 2) := by decide +kernel
theorem dX9_spoilsRest_15 : decode cX9_spoilsRest 15 = .ok (.ishr, 1) := by decide +kernel
theorem dX9_spoilsRest_16 : decode cX9_spoilsRest 16 = .ok (.iconst 1, 1) := by decide +kernel
theorem dX9_spoilsRest_17 : decode cX9_spoilsRest 17 = .ok (.iand, 1) := by decide +kernel
theorem dX9_spoilsRest_18 : decode cX9_spoilsRest 18 = .ok (.ifCond .ne 16, 3) := by decide +kernel
theorem dX9_spoilsRest_21 : decode cX9_spoilsRest 21 = .ok (.aload_n 0, 1) := by decide +kernel
theorem dX9_spoilsRest_22 : decode cX9_spoilsRest 22 = .ok (.aload_n 1, 1) := by decide +kernel
theorem dX9_spoilsRest_23 : decode cX9_spoilsRest 23 = .ok (.iload_n 3, 1) := by decide +kernel
theorem dX9_spoilsRest_24 : decode cX9_spoilsRest 24 = .ok (.iload 4, 2) := by decide +kernel
theorem dX9_spoilsRest_26 : decode cX9_spoilsRest 26 = .ok (.invokevirtual 69, 3) := by decide +kernel
theorem dX9_spoilsRest_29 : decode cX9_spoilsRest 29 = .ok (.ifCond .eq 5, 3) := by decide +kernel
theorem dX9_spoilsRest_32 : decode cX9_spoilsRest 32 = .ok (.iconst 1, 1) := by decide +kernel
theorem dX9_spoilsRest_33 : decode cX9_spoilsRest 33 = .ok (.ireturn, 1) := by decide +kernel
theorem dX9_spoilsRest_34 : decode cX9_spoilsRest 34 = .ok (.iinc 4 1, 3) := by decide +kernel
theorem dX9_spoilsRest_37 : decode cX9_spoilsRest 37 = .ok (.goto (-34), 3) := by decide +kernel
theorem dX9_spoilsRest_40 : decode cX9_spoilsRest 40 = .ok (.iconst 0, 1) := by decide +kernel
theorem dX9_spoilsRest_41 : decode cX9_spoilsRest 41 = .ok (.ireturn, 1) := by decide +kernel
theorem dX9_weld_0 : decode cX9_weld 0 = .ok (.iload_n 2, 1) := by decide +kernel
theorem dX9_weld_1 : decode cX9_weld 1 = .ok (.bipush 60, 2) := by decide +kernel
theorem dX9_weld_3 : decode cX9_weld 3 = .ok (.imul, 1) := by decide +kernel
theorem dX9_weld_4 : decode cX9_weld 4 = .ok (.istore 4, 2) := by decide +kernel
theorem dX9_weld_6 : decode cX9_weld 6 = .ok (.iload 4, 2) := by decide +kernel
theorem dX9_weld_8 : decode cX9_weld 8 = .ok (.bipush 60, 2) := by decide +kernel
theorem dX9_weld_10 : decode cX9_weld 10 = .ok (.iadd, 1) := by decide +kernel
theorem dX9_weld_11 : decode cX9_weld 11 = .ok (.istore 5, 2) := by decide +kernel
theorem dX9_weld_13 : decode cX9_weld 13 = .ok (.aload_n 0, 1) := by decide +kernel
theorem dX9_weld_14 : decode cX9_weld 14 = .ok (.getfield 20, 3) := by decide +kernel
theorem dX9_weld_17 : decode cX9_weld 17 = .ok (.iload 4, 2) := by decide +kernel
theorem dX9_weld_19 : decode cX9_weld 19 = .ok (.aload_n 0, 1) := by decide +kernel
theorem dX9_weld_20 : decode cX9_weld 20 = .ok (.getfield 20, 3) := by decide +kernel
theorem dX9_weld_23 : decode cX9_weld 23 = .ok (.iload 5, 2) := by decide +kernel
theorem dX9_weld_25 : decode cX9_weld 25 = .ok (.bipush 60, 2) := by decide +kernel
theorem dX9_weld_27 : decode cX9_weld 27 = .ok (.invokestatic 41, 3) := by decide +kernel
theorem dX9_weld_30 : decode cX9_weld 30 = .ok (.aload_n 0, 1) := by decide +kernel
theorem dX9_weld_31 : decode cX9_weld 31 = .ok (.getfield 23, 3) := by decide +kernel
theorem dX9_weld_34 : decode cX9_weld 34 = .ok (.iload 4, 2) := by decide +kernel
theorem dX9_weld_36 : decode cX9_weld 36 = .ok (.aload_n 0, 1) := by decide +kernel
theorem dX9_weld_37 : decode cX9_weld 37 = .ok (.getfield 23, 3) := by decide +kernel
theorem dX9_weld_40 : decode cX9_weld 40 = .ok (.iload 5, 2) := by decide +kernel
theorem dX9_weld_42 : decode cX9_weld 42 = .ok (.bipush 60, 2) := by decide +kernel
theorem dX9_weld_44 : decode cX9_weld 44 = .ok (.invokestatic 41, 3) := by decide +kernel
theorem dX9_weld_47 : decode cX9_weld 47 = .ok (.aload_n 0, 1) := by decide +kernel
theorem dX9_weld_48 : decode cX9_weld 48 = .ok (.iload_n 2, 1) := by decide +kernel
theorem dX9_weld_49 : decode cX9_weld 49 = .ok (.aload_n 1, 1) := by decide +kernel
theorem dX9_weld_50 : decode cX9_weld 50 = .ok (.getfield 72, 3) := by decide +kernel
theorem dX9_weld_53 : decode cX9_weld 53 = .ok (.iload_n 3, 1) := by decide +kernel
theorem dX9_weld_54 : decode cX9_weld 54 = .ok (.iaload, 1) := by decide +kernel
theorem dX9_weld_55 : decode cX9_weld 55 = .ok (.aload_n 1, 1) := by decide +kernel
theorem dX9_weld_56 : decode cX9_weld 56 = .ok (.getfield 75, 3) := by decide +kernel
theorem dX9_weld_59 : decode cX9_weld 59 = .ok (.iload_n 3, 1) := by decide +kernel
theorem dX9_weld_60 : decode cX9_weld 60 = .ok (.iaload, 1) := by decide +kernel
theorem dX9_weld_61 : decode cX9_weld 61 = .ok (.invokevirtual 78, 3) := by decide +kernel
theorem dX9_weld_64 : decode cX9_weld 64 = .ok (.ifCond .ne 111, 3) := by decide +kernel
theorem dX9_weld_67 : decode cX9_weld 67 = .ok (.aload_n 0, 1) := by decide +kernel
theorem dX9_weld_68 : decode cX9_weld 68 = .ok (.iload_n 2, 1) := by decide +kernel
theorem dX9_weld_69 : decode cX9_weld 69 = .ok (.aload_n 1, 1) := by decide +kernel
theorem dX9_weld_70 : decode cX9_weld 70 = .ok (.getfield 72, 3) := by decide +kernel
theorem dX9_weld_73 : decode cX9_weld 73 = .ok (.iload_n 3, 1) := by decide +kernel
theorem dX9_weld_74 : decode cX9_weld 74 = .ok (.iaload, 1) := by decide +kernel
theorem dX9_weld_75 : decode cX9_weld 75 = .ok (.aload_n 1, 1) := by decide +kernel
theorem dX9_weld_76 : decode cX9_weld 76 = .ok (.getfield 75, 3) := by decide +kernel
theorem dX9_weld_79 : decode cX9_weld 79 = .ok (.iload_n 3, 1) := by decide +kernel
theorem dX9_weld_80 : decode cX9_weld 80 = .ok (.iaload, 1) := by decide +kernel
theorem dX9_weld_81 : decode cX9_weld 81 = .ok (.invokevirtual 82, 3) := by decide +kernel
theorem dX9_weld_84 : decode cX9_weld 84 = .ok (.istore 6, 2) := by decide +kernel
theorem dX9_weld_86 : decode cX9_weld 86 = .ok (.aload_n 0, 1) := by decide +kernel
theorem dX9_weld_87 : decode cX9_weld 87 = .ok (.getfield 20, 3) := by decide +kernel
theorem dX9_weld_90 : decode cX9_weld 90 = .ok (.iload 5, 2) := by decide +kernel
theorem dX9_weld_92 : decode cX9_weld 92 = .ok (.aload_n 1, 1) := by decide +kernel
theorem dX9_weld_93 : decode cX9_weld 93 = .ok (.getfield 75, 3) := by decide +kernel
theorem dX9_weld_96 : decode cX9_weld 96 = .ok (.iload_n 3, 1) := by decide +kernel
theorem dX9_weld_97 : decode cX9_weld 97 = .ok (.iaload, 1) := by decide +kernel
theorem dX9_weld_98 : decode cX9_weld 98 = .ok (.iconst 1, 1) := by decide +kernel
theorem dX9_weld_99 : decode cX9_weld 99 = .ok (.ishr, 1) := by decide +kernel
theorem dX9_weld_100 : decode cX9_weld 100 = .ok (.iadd, 1) := by decide +kernel
theorem dX9_weld_101 : decode cX9_weld 101 = .ok (.iaload, 1) := by decide +kernel
theorem dX9_weld_102 : decode cX9_weld 102 = .ok (.istore 7, 2) := by decide +kernel
theorem dX9_weld_104 : decode cX9_weld 104 = .ok (.aload_n 0, 1) := by decide +kernel
theorem dX9_weld_105 : decode cX9_weld 105 = .ok (.getfield 20, 3) := by decide +kernel
theorem dX9_weld_108 : decode cX9_weld 108 = .ok (.iload 5, 2) := by decide +kernel
theorem dX9_weld_110 : decode cX9_weld 110 = .ok (.aload_n 1, 1) := by decide +kernel
theorem dX9_weld_111 : decode cX9_weld 111 = .ok (.getfield 72, 3) := by decide +kernel
theorem dX9_weld_114 : decode cX9_weld 114 = .ok (.iload_n 3, 1) := by decide +kernel
theorem dX9_weld_115 : decode cX9_weld 115 = .ok (.iaload, 1) := by decide +kernel
theorem dX9_weld_116 : decode cX9_weld 116 = .ok (.iconst 1, 1) := by decide +kernel
theorem dX9_weld_117 : decode cX9_weld 117 = .ok (.ishr, 1) := by decide +kernel
theorem dX9_weld_118 : decode cX9_weld 118 = .ok (.iadd, 1) := by decide +kernel
theorem dX9_weld_119 : decode cX9_weld 119 = .ok (.iaload, 1) := by decide +kernel
theorem dX9_weld_120 : decode cX9_weld 120 = .ok (.istore 8, 2) := by decide +kernel
theorem dX9_weld_122 : decode cX9_weld 122 = .ok (.iload 5, 2) := by decide +kernel
theorem dX9_weld_124 : decode cX9_weld 124 = .ok (.istore 9, 2) := by decide +kernel
theorem dX9_weld_126 : decode cX9_weld 126 = .ok (.iload 9, 2) := by decide +kernel
theorem dX9_weld_128 : decode cX9_weld 128 = .ok (.iload 5, 2) := by decide +kernel
theorem dX9_weld_130 : decode cX9_weld 130 = .ok (.bipush 60, 2) := by decide +kernel
theorem dX9_weld_132 : decode cX9_weld 132 = .ok (.iadd, 1) := by decide +kernel
theorem dX9_weld_133 : decode cX9_weld 133 = .ok (.if_icmp .ge 42, 3) := by decide +kernel
theorem dX9_weld_136 : decode cX9_weld 136 = .ok (.aload_n 0, 1) := by decide +kernel
theorem dX9_weld_137 : decode cX9_weld 137 = .ok (.getfield 20, 3) := by decide +kernel
theorem dX9_weld_140 : decode cX9_weld 140 = .ok (.iload 9, 2) := by decide +kernel
theorem dX9_weld_142 : decode cX9_weld 142 = .ok (.iaload, 1) := by decide +kernel
theorem dX9_weld_143 : decode cX9_weld 143 = .ok (.iload 7, 2) := by decide +kernel
theorem dX9_weld_145 : decode cX9_weld 145 = .ok (.if_icmp .ne 24, 3) := by decide +kernel
theorem dX9_weld_148 : decode cX9_weld 148 = .ok (.aload_n 0, 1) := by decide +kernel
theorem dX9_weld_149 : decode cX9_weld 149 = .ok (.getfield 20, 3) := by decide +kernel
theorem dX9_weld_152 : decode cX9_weld 152 = .ok (.iload 9, 2) := by decide +kernel
theorem dX9_weld_154 : decode cX9_weld 154 = .ok (.iload 8, 2) := by decide +kernel
theorem dX9_weld_156 : decode cX9_weld 156 = .ok (.iastore, 1) := by decide +kernel
theorem dX9_weld_157 : decode cX9_weld 157 = .ok (.aload_n 0, 1) := by decide +kernel
theorem dX9_weld_158 : decode cX9_weld 158 = .ok (.getfield 23, 3) := by decide +kernel
theorem dX9_weld_161 : decode cX9_weld 161 = .ok (.iload 9, 2) := by decide +kernel
theorem dX9_weld_163 : decode cX9_weld 163 = .ok (.dup2, 1) := by decide +kernel
theorem dX9_weld_164 : decode cX9_weld 164 = .ok (.iaload, 1) := by decide +kernel
theorem dX9_weld_165 : decode cX9_weld 165 = .ok (.iload 6, 2) := by decide +kernel
theorem dX9_weld_167 : decode cX9_weld 167 = .ok (.iadd, 1) := by decide +kernel
theorem dX9_weld_168 : decode cX9_weld 168 = .ok (.iastore, 1) := by decide +kernel
theorem dX9_weld_169 : decode cX9_weld 169 = .ok (.iinc 9 1, 3) := by decide +kernel
theorem dX9_weld_172 : decode cX9_weld 172 = .ok (.goto (-46), 3) := by decide +kernel
theorem dX9_weld_175 : decode cX9_weld 175 = .ok (.aload_n 0, 1) := by decide +kernel
theorem dX9_weld_176 : decode cX9_weld 176 = .ok (.aload_n 1, 1) := by decide +kernel
theorem dX9_weld_177 : decode cX9_weld 177 = .ok (.iload_n 2, 1) := by decide +kernel
theorem dX9_weld_178 : decode cX9_weld 178 = .ok (.iconst 1, 1) := by decide +kernel
theorem dX9_weld_179 : decode cX9_weld 179 = .ok (.iadd, 1) := by decide +kernel
theorem dX9_weld_180 : decode cX9_weld 180 = .ok (.iload_n 3, 1) := by decide +kernel
theorem dX9_weld_181 : decode cX9_weld 181 = .ok (.invokevirtual 69, 3) := by decide +kernel
theorem dX9_weld_184 : decode cX9_weld 184 = .ok (.ifCond .ne 7, 3) := by decide +kernel
theorem dX9_weld_187 : decode cX9_weld 187 = .ok (.iconst 1, 1) := by decide +kernel
theorem dX9_weld_188 : decode cX9_weld 188 = .ok (.goto 4, 3) := by decide +kernel
theorem dX9_weld_191 : decode cX9_weld 191 = .ok (.iconst 0, 1) := by decide +kernel
theorem dX9_weld_192 : decode cX9_weld 192 = .ok (.ireturn, 1) := by decide +kernel
theorem dX9_shorts_0 : decode cX9_shorts 0 = .ok (.aload_n 0, 1) := by decide +kernel
theorem dX9_shorts_1 : decode cX9_shorts 1 = .ok (.iload_n 2, 1) := by decide +kernel
theorem dX9_shorts_2 : decode cX9_shorts 2 = .ok (.aload_n 1, 1) := by decide +kernel
theorem dX9_shorts_3 : decode cX9_shorts 3 = .ok (.getfield 72, 3) := by decide +kernel
theorem dX9_shorts_6 : decode cX9_shorts 6 = .ok (.iload_n 3, 1) := by decide +kernel
theorem dX9_shorts_7 : decode cX9_shorts 7 = .ok (.iaload, 1) := by decide +kernel
theorem dX9_shorts_8 : decode cX9_shorts 8 = .ok (.aload_n 1, 1) := by decide +kernel
theorem dX9_shorts_9 : decode cX9_shorts 9 = .ok (.getfield 75, 3) := by decide +kernel
theorem dX9_shorts_12 : decode cX9_shorts 12 = .ok (.iload_n 3, 1) := by decide +kernel
theorem dX9_shorts_13 : decode cX9_shorts 13 = .ok (.iaload, 1) := by decide +kernel
theorem dX9_shorts_14 : decode cX9_shorts 14 = .ok (.invokevirtual 78, 3) := by decide +kernel
theorem dX9_shorts_17 : decode cX9_shorts 17 = .ok (.ifCond .eq 25, 3) := by decide +kernel
theorem dX9_shorts_20 : decode cX9_shorts 20 = .ok (.aload_n 0, 1) := by decide +kernel
theorem dX9_shorts_21 : decode cX9_shorts 21 = .ok (.iload_n 2, 1) := by decide +kernel
theorem dX9_shorts_22 : decode cX9_shorts 22 = .ok (.aload_n 1, 1) := by decide +kernel
theorem dX9_shorts_23 : decode cX9_shorts 23 = .ok (.getfield 72, 3) := by decide +kernel
theorem dX9_shorts_26 : decode cX9_shorts 26 = .ok (.iload_n 3, 1) := by decide +kernel
theorem dX9_shorts_27 : decode cX9_shorts 27 = .ok (.iaload, 1) := by decide +kernel
theorem dX9_shorts_28 : decode cX9_shorts 28 = .ok (.aload_n 1, 1) := by decide +kernel
theorem dX9_shorts_29 : decode cX9_shorts 29 = .ok (.getfield 75, 3) := by decide +kernel
theorem dX9_shorts_32 : decode cX9_shorts 32 = .ok (.iload_n 3, 1) := by decide +kernel
theorem dX9_shorts_33 : decode cX9_shorts 33 = .ok (.iaload, 1) := by decide +kernel
theorem dX9_shorts_34 : decode cX9_shorts 34 = .ok (.invokevirtual 82, 3) := by decide +kernel
theorem dX9_shorts_37 : decode cX9_shorts 37 = .ok (.ifCond .eq 5, 3) := by decide +kernel
theorem dX9_shorts_40 : decode cX9_shorts 40 = .ok (.iconst 1, 1) := by decide +kernel
theorem dX9_shorts_41 : decode cX9_shorts 41 = .ok (.ireturn, 1) := by decide +kernel
theorem dX9_shorts_42 : decode cX9_shorts 42 = .ok (.iconst 0, 1) := by decide +kernel
theorem dX9_shorts_43 : decode cX9_shorts 43 = .ok (.istore 4, 2) := by decide +kernel
theorem dX9_shorts_45 : decode cX9_shorts 45 = .ok (.iload 4, 2) := by decide +kernel
theorem dX9_shorts_47 : decode cX9_shorts 47 = .ok (.aload_n 1, 1) := by decide +kernel
theorem dX9_shorts_48 : decode cX9_shorts 48 = .ok (.getfield 86, 3) := by decide +kernel
theorem dX9_shorts_51 : decode cX9_shorts 51 = .ok (.if_icmp .ge 77, 3) := by decide +kernel
theorem dX9_shorts_54 : decode cX9_shorts 54 = .ok (.aload_n 1, 1) := by decide +kernel
theorem dX9_shorts_55 : decode cX9_shorts 55 = .ok (.getfield 89, 3) := by decide +kernel
theorem dX9_shorts_58 : decode cX9_shorts 58 = .ok (.iload 4, 2) := by decide +kernel
theorem dX9_shorts_60 : decode cX9_shorts 60 = .ok (.iaload, 1) := by decide +kernel
theorem dX9_shorts_61 : decode cX9_shorts 61 = .ok (.iload_n 3, 1) := by decide +kernel
theorem dX9_shorts_62 : decode cX9_shorts 62 = .ok (.if_icmp .ne 60, 3) := by decide +kernel
theorem dX9_shorts_65 : decode cX9_shorts 65 = .ok (.aload_n 0, 1) := by decide +kernel
theorem dX9_shorts_66 : decode cX9_shorts 66 = .ok (.iload_n 2, 1) := by decide +kernel
theorem dX9_shorts_67 : decode cX9_shorts 67 = .ok (.aload_n 1, 1) := by decide +kernel
theorem dX9_shorts_68 : decode cX9_shorts 68 = .ok (.getfield 92, 3) := by decide +kernel
theorem dX9_shorts_71 : decode cX9_shorts 71 = .ok (.iload 4, 2) := by decide +kernel
theorem dX9_shorts_73 : decode cX9_shorts 73 = .ok (.iaload, 1) := by decide +kernel
theorem dX9_shorts_74 : decode cX9_shorts 74 = .ok (.aload_n 1, 1) := by decide +kernel
theorem dX9_shorts_75 : decode cX9_shorts 75 = .ok (.getfield 95, 3) := by decide +kernel
theorem dX9_shorts_78 : decode cX9_shorts 78 = .ok (.iload 4, 2) := by decide +kernel
theorem dX9_shorts_80 : decode cX9_shorts 80 = .ok (.iaload, 1) := by decide +kernel
theorem dX9_shorts_81 : decode cX9_shorts 81 = .ok (.invokevirtual 78, 3) := by decide +kernel
theorem dX9_shorts_84 : decode cX9_shorts 84 = .ok (.ifCond .eq 38, 3) := by decide +kernel
theorem dX9_shorts_87 : decode cX9_shorts 87 = .ok (.aload_n 0, 1) := by decide +kernel
theorem dX9_shorts_88 : decode cX9_shorts 88 = .ok (.iload_n 2, 1) := by decide +kernel
theorem dX9_shorts_89 : decode cX9_shorts 89 = .ok (.aload_n 1, 1) := by decide +kernel
theorem dX9_shorts_90 : decode cX9_shorts 90 = .ok (.getfield 92, 3) := by decide +kernel
theorem dX9_shorts_93 : decode cX9_shorts 93 = .ok (.iload 4, 2) := by decide +kernel
theorem dX9_shorts_95 : decode cX9_shorts 95 = .ok (.iaload, 1) := by decide +kernel
theorem dX9_shorts_96 : decode cX9_shorts 96 = .ok (.aload_n 1, 1) := by decide +kernel
theorem dX9_shorts_97 : decode cX9_shorts 97 = .ok (.getfield 95, 3) := by decide +kernel
theorem dX9_shorts_100 : decode cX9_shorts 100 = .ok (.iload 4, 2) := by decide +kernel
theorem dX9_shorts_102 : decode cX9_shorts 102 = .ok (.iaload, 1) := by decide +kernel
theorem dX9_shorts_103 : decode cX9_shorts 103 = .ok (.invokevirtual 82, 3) := by decide +kernel
theorem dX9_shorts_106 : decode cX9_shorts 106 = .ok (.istore 5, 2) := by decide +kernel
theorem dX9_shorts_108 : decode cX9_shorts 108 = .ok (.iload 5, 2) := by decide +kernel
theorem dX9_shorts_110 : decode cX9_shorts 110 = .ok (.iconst 1, 1) := by decide +kernel
theorem dX9_shorts_111 : decode cX9_shorts 111 = .ok (.if_icmp .gt 9, 3) := by decide +kernel
theorem dX9_shorts_114 : decode cX9_shorts 114 = .ok (.iload 5, 2) := by decide +kernel
theorem dX9_shorts_116 : decode cX9_shorts 116 = .ok (.iconst (-1), 1) := by decide +kernel
theorem dX9_shorts_117 : decode cX9_shorts 117 = .ok (.if_icmp .ge 5, 3) := by decide +kernel
theorem dX9_shorts_120 : decode cX9_shorts 120 = .ok (.iconst 1, 1) := by decide +kernel
theorem dX9_shorts_121 : decode cX9_shorts 121 = .ok (.ireturn, 1) := by decide +kernel
theorem dX9_shorts_122 : decode cX9_shorts 122 = .ok (.iinc 4 1, 3) := by decide +kernel
theorem dX9_shorts_125 : decode cX9_shorts 125 = .ok (.goto (-80), 3) := by decide +kernel
theorem dX9_shorts_128 : decode cX9_shorts 128 = .ok (.iconst 0, 1) := by decide +kernel
theorem dX9_shorts_129 : decode cX9_shorts 129 = .ok (.ireturn, 1) := by decide +kernel
theorem dX9_together_0 : decode cX9_together 0 = .ok (.aload_n 0, 1) := by decide +kernel
theorem dX9_together_1 : decode cX9_together 1 = .ok (.getfield 20, 3) := by decide +kernel
theorem dX9_together_4 : decode cX9_together 4 = .ok (.iload_n 1, 1) := by decide +kernel
theorem dX9_together_5 : decode cX9_together 5 = .ok (.bipush 60, 2) := by decide +kernel
theorem dX9_together_7 : decode cX9_together 7 = .ok (.imul, 1) := by decide +kernel
theorem dX9_together_8 : decode cX9_together 8 = .ok (.iload_n 2, 1) := by decide +kernel
theorem dX9_together_9 : decode cX9_together 9 = .ok (.iconst 1, 1) := by decide +kernel
theorem dX9_together_10 : decode cX9_together 10 = .ok (.ishr, 1) := by decide +kernel
theorem dX9_together_11 : decode cX9_together 11 = .ok (.iadd, 1) := by decide +kernel
theorem dX9_together_12 : decode cX9_together 12 = .ok (.iaload, 1) := by decide +kernel
theorem dX9_together_13 : decode cX9_together 13 = .ok (.aload_n 0, 1) := by decide +kernel
theorem dX9_together_14 : decode cX9_together 14 = .ok (.getfield 20, 3) := by decide +kernel
theorem dX9_together_17 : decode cX9_together 17 = .ok (.iload_n 1, 1) := by decide +kernel
theorem dX9_together_18 : decode cX9_together 18 = .ok (.bipush 60, 2) := by decide +kernel
theorem dX9_together_20 : decode cX9_together 20 = .ok (.imul, 1) := by decide +kernel
theorem dX9_together_21 : decode cX9_together 21 = .ok (.iload_n 3, 1) := by decide +kernel
theorem dX9_together_22 : decode cX9_together 22 = .ok (.iconst 1, 1) := by decide +kernel
theorem dX9_together_23 : decode cX9_together 23 = .ok (.ishr, 1) := by decide +kernel
theorem dX9_together_24 : decode cX9_together 24 = .ok (.iadd, 1) := by decide +kernel
theorem dX9_together_25 : decode cX9_together 25 = .ok (.iaload, 1) := by decide +kernel
theorem dX9_together_26 : decode cX9_together 26 = .ok (.if_icmp .ne 7, 3) := by decide +kernel
theorem dX9_together_29 : decode cX9_together 29 = .ok (.iconst 1, 1) := by decide +kernel
theorem dX9_together_30 : decode cX9_together 30 = .ok (.goto 4, 3) := by decide +kernel
theorem dX9_together_33 : decode cX9_together 33 = .ok (.iconst 0, 1) := by decide +kernel
theorem dX9_together_34 : decode cX9_together 34 = .ok (.ireturn, 1) := by decide +kernel
theorem dX9_apart_0 : decode cX9_apart 0 = .ok (.aload_n 0, 1) := by decide +kernel
theorem dX9_apart_1 : decode cX9_apart 1 = .ok (.getfield 23, 3) := by decide +kernel
theorem dX9_apart_4 : decode cX9_apart 4 = .ok (.iload_n 1, 1) := by decide +kernel
theorem dX9_apart_5 : decode cX9_apart 5 = .ok (.bipush 60, 2) := by decide +kernel
theorem dX9_apart_7 : decode cX9_apart 7 = .ok (.imul, 1) := by decide +kernel
theorem dX9_apart_8 : decode cX9_apart 8 = .ok (.iload_n 2, 1) := by decide +kernel
theorem dX9_apart_9 : decode cX9_apart 9 = .ok (.iconst 1, 1) := by decide +kernel
theorem dX9_apart_10 : decode cX9_apart 10 = .ok (.ishr, 1) := by decide +kernel
theorem dX9_apart_11 : decode cX9_apart 11 = .ok (.iadd, 1) := by decide +kernel
theorem dX9_apart_12 : decode cX9_apart 12 = .ok (.iaload, 1) := by decide +kernel
theorem dX9_apart_13 : decode cX9_apart 13 = .ok (.iload_n 2, 1) := by decide +kernel
theorem dX9_apart_14 : decode cX9_apart 14 = .ok (.iconst 1, 1) := by decide +kernel
theorem dX9_apart_15 : decode cX9_apart 15 = .ok (.iand, 1) := by decide +kernel
theorem dX9_apart_16 : decode cX9_apart 16 = .ok (.iadd, 1) := by decide +kernel
theorem dX9_apart_17 : decode cX9_apart 17 = .ok (.aload_n 0, 1) := by decide +kernel
theorem dX9_apart_18 : decode cX9_apart 18 = .ok (.getfield 23, 3) := by decide +kernel
theorem dX9_apart_21 : decode cX9_apart 21 = .ok (.iload_n 1, 1) := by decide +kernel
theorem dX9_apart_22 : decode cX9_apart 22 = .ok (.bipush 60, 2) := by decide +kernel
theorem dX9_apart_24 : decode cX9_apart 24 = .ok (.imul, 1) := by decide +kernel
theorem dX9_apart_25 : decode cX9_apart 25 = .ok (.iload_n 3, 1) := by decide +kernel
theorem dX9_apart_26 : decode cX9_apart 26 = .ok (.iconst 1, 1) := by decide +kernel
theorem dX9_apart_27 : decode cX9_apart 27 = .ok (.ishr, 1) := by decide +kernel
theorem dX9_apart_28 : decode cX9_apart 28 = .ok (.iadd, 1) := by decide +kernel
theorem dX9_apart_29 : decode cX9_apart 29 = .ok (.iaload, 1) := by decide +kernel
theorem dX9_apart_30 : decode cX9_apart 30 = .ok (.isub, 1) := by decide +kernel
theorem dX9_apart_31 : decode cX9_apart 31 = .ok (.iload_n 3, 1) := by decide +kernel
theorem dX9_apart_32 : decode cX9_apart 32 = .ok (.iconst 1, 1) := by decide +kernel
theorem dX9_apart_33 : decode cX9_apart 33 = .ok (.iand, 1) := by decide +kernel
theorem dX9_apart_34 : decode cX9_apart 34 = .ok (.isub, 1) := by decide +kernel
theorem dX9_apart_35 : decode cX9_apart 35 = .ok (.ireturn, 1) := by decide +kernel
