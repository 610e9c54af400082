theorem dX0_init_0 : decode cX0_init 0 = .ok (.aload_n 0, 1) := by decide +kernel
theorem dX0_init_1 : decode cX0_init 1 = .ok (.invokespecial 3, 3) := by decide +kernel
theorem dX0_init_4 : decode cX0_init 4 = .ok (.aload_n 0, 1) := by decide +kernel
theorem dX0_init_5 : decode cX0_init 5 = .ok (.bipush 6, 2) := by decide +kernel
theorem dX0_init_7 : decode cX0_init 7 = .ok (.newarray .int, 2) := by decide +kernel
theorem dX0_init_9 : decode cX0_init 9 = .ok (.putfield 9, 3) := by decide +kernel
theorem dX0_init_12 : decode cX0_init 12 = .ok (.aload_n 0, 1) := by decide +kernel
theorem dX0_init_13 : decode cX0_init 13 = .ok (.bipush 8, 2) := by decide +kernel
theorem dX0_init_15 : decode cX0_init 15 = .ok (.newarray .int, 2) := by decide +kernel
theorem dX0_init_17 : decode cX0_init 17 = .ok (.putfield 15, 3) := by decide +kernel
theorem dX0_init_20 : decode cX0_init 20 = .ok (.aload_n 0, 1) := by decide +kernel
theorem dX0_init_21 : decode cX0_init 21 = .ok (.getstatic 18, 3) := by decide +kernel
theorem dX0_init_24 : decode cX0_init 24 = .ok (.invokevirtual 21, 3) := by decide +kernel
theorem dX0_init_27 : decode cX0_init 27 = .ok (.checkcast 22, 3) := by decide +kernel
theorem dX0_init_30 : decode cX0_init 30 = .ok (.putfield 26, 3) := by decide +kernel
theorem dX0_init_33 : decode cX0_init 33 = .ok (.return_, 1) := by decide +kernel
theorem dX0_hasBench_0 : decode cX0_hasBench 0 = .ok (.iload_n 1, 1) := by decide +kernel
theorem dX0_hasBench_1 : decode cX0_hasBench 1 = .ok (.ifCond .lt 15, 3) := by decide +kernel
theorem dX0_hasBench_4 : decode cX0_hasBench 4 = .ok (.iload_n 1, 1) := by decide +kernel
theorem dX0_hasBench_5 : decode cX0_hasBench 5 = .ok (.aload_n 0, 1) := by decide +kernel
theorem dX0_hasBench_6 : decode cX0_hasBench 6 = .ok (.getfield 29, 3) := by decide +kernel
theorem dX0_hasBench_9 : decode cX0_hasBench 9 = .ok (.if_icmp .ge 7, 3) := by decide +kernel
theorem dX0_hasBench_12 : decode cX0_hasBench 12 = .ok (.iconst 1, 1) := by decide +kernel
theorem dX0_hasBench_13 : decode cX0_hasBench 13 = .ok (.goto 4, 3) := by decide +kernel
theorem dX0_hasBench_16 : decode cX0_hasBench 16 = .ok (.iconst 0, 1) := by decide +kernel
theorem dX0_hasBench_17 : decode cX0_hasBench 17 = .ok (.ireturn, 1) := by decide +kernel
theorem dX0_hasBox_0 : decode cX0_hasBox 0 = .ok (.iload_n 1, 1) := by decide +kernel
theorem dX0_hasBox_1 : decode cX0_hasBox 1 = .ok (.ifCond .lt 15, 3) := by decide +kernel
theorem dX0_hasBox_4 : decode cX0_hasBox 4 = .ok (.iload_n 1, 1) := by decide +kernel
theorem dX0_hasBox_5 : decode cX0_hasBox 5 = .ok (.aload_n 0, 1) := by decide +kernel
theorem dX0_hasBox_6 : decode cX0_hasBox 6 = .ok (.getfield 33, 3) := by decide +kernel
theorem dX0_hasBox_9 : decode cX0_hasBox 9 = .ok (.if_icmp .ge 7, 3) := by decide +kernel
theorem dX0_hasBox_12 : decode cX0_hasBox 12 = .ok (.iconst 1, 1) := by decide +kernel
theorem dX0_hasBox_13 : decode cX0_hasBox 13 = .ok (.goto 4, 3) := by decide +kernel
theorem dX0_hasBox_16 : decode cX0_hasBox 16 = .ok (.iconst 0, 1) := by decide +kernel
theorem dX0_hasBox_17 : decode cX0_hasBox 17 = .ok (.ireturn, 1) := by decide +kernel
theorem dX0_boxNamed_0 : decode cX0_boxNamed 0 = .ok (.iconst 0, 1) := by decide +kernel
theorem dX0_boxNamed_1 : decode cX0_boxNamed 1 = .ok (.istore_n 2, 1) := by decide +kernel
theorem dX0_boxNamed_2 : decode cX0_boxNamed 2 = .ok (.iload_n 2, 1) := by decide +kernel
theorem dX0_boxNamed_3 : decode cX0_boxNamed 3 = .ok (.aload_n 0, 1) := by decide +kernel
theorem dX0_boxNamed_4 : decode cX0_boxNamed 4 = .ok (.getfield 33, 3) := by decide +kernel
theorem dX0_boxNamed_7 : decode cX0_boxNamed 7 = .ok (.if_icmp .ge 21, 3) := by decide +kernel
theorem dX0_boxNamed_10 : decode cX0_boxNamed 10 = .ok (.aload_n 0, 1) := by decide +kernel
theorem dX0_boxNamed_11 : decode cX0_boxNamed 11 = .ok (.getfield 15, 3) := by decide +kernel
theorem dX0_boxNamed_14 : decode cX0_boxNamed 14 = .ok (.iload_n 2, 1) := by decide +kernel
theorem dX0_boxNamed_15 : decode cX0_boxNamed 15 = .ok (.iaload, 1) := by decide +kernel
theorem dX0_boxNamed_16 : decode cX0_boxNamed 16 = .ok (.iload_n 1, 1) := by decide +kernel
theorem dX0_boxNamed_17 : decode cX0_boxNamed 17 = .ok (.if_icmp .ne 5, 3) := by decide +kernel
theorem dX0_boxNamed_20 : decode cX0_boxNamed 20 = .ok (.iload_n 2, 1) := by decide +kernel
theorem dX0_boxNamed_21 : decode cX0_boxNamed 21 = .ok (.ireturn, 1) := by decide +kernel
theorem dX0_boxNamed_22 : decode cX0_boxNamed 22 = .ok (.iinc 2 1, 3) := by decide +kernel
theorem dX0_boxNamed_25 : decode cX0_boxNamed 25 = .ok (.goto (-23), 3) := by decide +kernel
theorem dX0_boxNamed_28 : decode cX0_boxNamed 28 = .ok (.iconst (-1), 1) := by decide +kernel
theorem dX0_boxNamed_29 : decode cX0_boxNamed 29 = .ok (.ireturn, 1) := by decide +kernel
theorem dX0_isTold_0 : decode cX0_isTold 0 = .ok (.iconst 0, 1) := by decide +kernel
theorem dX0_isTold_1 : decode cX0_isTold 1 = .ok (.istore_n 2, 1) := by decide +kernel
theorem dX0_isTold_2 : decode cX0_isTold 2 = .ok (.iload_n 2, 1) := by decide +kernel
theorem dX0_isTold_3 : decode cX0_isTold 3 = .ok (.aload_n 0, 1) := by decide +kernel
theorem dX0_isTold_4 : decode cX0_isTold 4 = .ok (.getfield 29, 3) := by decide +kernel
theorem dX0_isTold_7 : decode cX0_isTold 7 = .ok (.if_icmp .ge 21, 3) := by decide +kernel
theorem dX0_isTold_10 : decode cX0_isTold 10 = .ok (.aload_n 0, 1) := by decide +kernel
theorem dX0_isTold_11 : decode cX0_isTold 11 = .ok (.getfield 9, 3) := by decide +kernel
theorem dX0_isTold_14 : decode cX0_isTold 14 = .ok (.iload_n 2, 1) := by decide +kernel
theorem dX0_isTold_15 : decode cX0_isTold 15 = .ok (.iaload, 1) := by decide +kernel
theorem dX0_isTold_16 : decode cX0_isTold 16 = .ok (.iload_n 1, 1) := by decide +kernel
theorem dX0_isTold_17 : decode cX0_isTold 17 = .ok (.if_icmp .ne 5, 3) := by decide +kernel
theorem dX0_isTold_20 : decode cX0_isTold 20 = .ok (.iconst 1, 1) := by decide +kernel
theorem dX0_isTold_21 : decode cX0_isTold 21 = .ok (.ireturn, 1) := by decide +kernel
theorem dX0_isTold_22 : decode cX0_isTold 22 = .ok (.iinc 2 1, 3) := by decide +kernel
theorem dX0_isTold_25 : decode cX0_isTold 25 = .ok (.goto (-23), 3) := by decide +kernel
theorem dX0_isTold_28 : decode cX0_isTold 28 = .ok (.aload_n 0, 1) := by decide +kernel
theorem dX0_isTold_29 : decode cX0_isTold 29 = .ok (.iload_n 1, 1) := by decide +kernel
theorem dX0_isTold_30 : decode cX0_isTold 30 = .ok (.invokevirtual 36, 3) := by decide +kernel
theorem dX0_isTold_33 : decode cX0_isTold 33 = .ok (.iconst (-1), 1) := by decide +kernel
theorem dX0_isTold_34 : decode cX0_isTold 34 = .ok (.if_icmp .eq 7, 3) := by decide +kernel
theorem dX0_isTold_37 : decode cX0_isTold 37 = .ok (.iconst 1, 1) := by decide +kernel
theorem dX0_isTold_38 : decode cX0_isTold 38 = .ok (.goto 4, 3) := by decide +kernel
theorem dX0_isTold_41 : decode cX0_isTold 41 = .ok (.iconst 0, 1) := by decide +kernel
theorem dX0_isTold_42 : decode cX0_isTold 42 = .ok (.ireturn, 1) := by decide +kernel
theorem dX0_copyFrom_0 : decode cX0_copyFrom 0 = .ok (.aload_n 1, 1) := by decide +kernel
theorem dX0_copyFrom_1 : decode cX0_copyFrom 1 = .ok (.getfield 9, 3) := by decide +kernel
theorem dX0_copyFrom_4 : decode cX0_copyFrom 4 = .ok (.iconst 0, 1) := by decide +kernel
theorem dX0_copyFrom_5 : decode cX0_copyFrom 5 = .ok (.aload_n 0, 1) := by decide +kernel
theorem dX0_copyFrom_6 : decode cX0_copyFrom 6 = .ok (.getfield 9, 3) := by decide +kernel
theorem dX0_copyFrom_9 : decode cX0_copyFrom 9 = .ok (.iconst 0, 1) := by decide +kernel
theorem dX0_copyFrom_10 : decode cX0_copyFrom 10 = .ok (.bipush 6, 2) := by decide +kernel
theorem dX0_copyFrom_12 : decode cX0_copyFrom 12 = .ok (.invokestatic 40, 3) := by decide +kernel
theorem dX0_copyFrom_15 : decode cX0_copyFrom 15 = .ok (.aload_n 1, 1) := by decide +kernel
theorem dX0_copyFrom_16 : decode cX0_copyFrom 16 = .ok (.getfield 15, 3) := by decide +kernel
theorem dX0_copyFrom_19 : decode cX0_copyFrom 19 = .ok (.iconst 0, 1) := by decide +kernel
theorem dX0_copyFrom_20 : decode cX0_copyFrom 20 = .ok (.aload_n 0, 1) := by decide +kernel
theorem dX0_copyFrom_21 : decode cX0_copyFrom 21 = .ok (.getfield 15, 3) := by decide +kernel
theorem dX0_copyFrom_24 : decode cX0_copyFrom 24 = .ok (.iconst 0, 1) := by decide +kernel
theorem dX0_copyFrom_25 : decode cX0_copyFrom 25 = .ok (.bipush 8, 2) := by decide +kernel
theorem dX0_copyFrom_27 : decode cX0_copyFrom 27 = .ok (.invokestatic 40, 3) := by decide +kernel
theorem dX0_copyFrom_30 : decode cX0_copyFrom 30 = .ok (.aload_n 1, 1) := by decide +kernel
theorem dX0_copyFrom_31 : decode cX0_copyFrom 31 = .ok (.getfield 26, 3) := by decide +kernel
theorem dX0_copyFrom_34 : decode cX0_copyFrom 34 = .ok (.iconst 0, 1) := by decide +kernel
theorem dX0_copyFrom_35 : decode cX0_copyFrom 35 = .ok (.aload_n 0, 1) := by decide +kernel
theorem dX0_copyFrom_36 : decode cX0_copyFrom 36 = .ok (.getfield 26, 3) := by decide +kernel
theorem dX0_copyFrom_39 : decode cX0_copyFrom 39 = .ok (.iconst 0, 1) := by decide +kernel
theorem dX0_copyFrom_40 : decode cX0_copyFrom 40 = .ok (.bipush 9, 2) := by decide +kernel
theorem dX0_copyFrom_42 : decode cX0_copyFrom 42 = .ok (.invokestatic 40, 3) := by decide +kernel
theorem dX0_copyFrom_45 : decode cX0_copyFrom 45 = .ok (.aload_n 0, 1) := by decide +kernel
theorem dX0_copyFrom_46 : decode cX0_copyFrom 46 = .ok (.aload_n 1, 1) := by decide +kernel
theorem dX0_copyFrom_47 : decode cX0_copyFrom 47 = .ok (.getfield 29, 3) := by decide +kernel
theorem dX0_copyFrom_50 : decode cX0_copyFrom 50 = .ok (.putfield 29, 3) := by decide +kernel
theorem dX0_copyFrom_53 : decode cX0_copyFrom 53 = .ok (.aload_n 0, 1) := by decide +kernel
theorem dX0_copyFrom_54 : decode cX0_copyFrom 54 = .ok (.aload_n 1, 1) := by decide +kernel
theorem dX0_copyFrom_55 : decode cX0_copyFrom 55 = .ok (.getfield 33, 3) := by decide +kernel
theorem dX0_copyFrom_58 : decode cX0_copyFrom 58 = .ok (.putfield 33, 3) := by decide +kernel
theorem dX0_copyFrom_61 : decode cX0_copyFrom 61 = .ok (.aload_n 0, 1) := by decide +kernel
theorem dX0_copyFrom_62 : decode cX0_copyFrom 62 = .ok (.aload_n 1, 1) := by decide +kernel
theorem dX0_copyFrom_63 : decode cX0_copyFrom 63 = .ok (.getfield 46, 3) := by decide +kernel
theorem dX0_copyFrom_66 : decode cX0_copyFrom 66 = .ok (.putfield 46, 3) := by decide +kernel
theorem dX0_copyFrom_69 : decode cX0_copyFrom 69 = .ok (.return_, 1) := by decide +kernel
theorem dX0_readFrom_0 : decode cX0_readFrom 0 = .ok (.aload_n 0, 1) := by decide +kernel
theorem dX0_readFrom_1 : decode cX0_readFrom 1 = .ok (.iconst 0, 1) := by decide +kernel
theorem dX0_readFrom_2 : decode cX0_readFrom 2 = .ok (.putfield 29, 3) := by decide +kernel
theorem dX0_readFrom_5 : decode cX0_readFrom 5 = .ok (.aload_n 0, 1) := by decide +kernel
theorem dX0_readFrom_6 : decode cX0_readFrom 6 = .ok (.iconst 0, 1) := by decide +kernel
theorem dX0_readFrom_7 : decode cX0_readFrom 7 = .ok (.putfield 33, 3) := by decide +kernel
theorem dX0_readFrom_10 : decode cX0_readFrom 10 = .ok (.aload_n 0, 1) := by decide +kernel
theorem dX0_readFrom_11 : decode cX0_readFrom 11 = .ok (.iconst 0, 1) := by decide +kernel
theorem dX0_readFrom_12 : decode cX0_readFrom 12 = .ok (.putfield 46, 3) := by decide +kernel
theorem dX0_readFrom_15 : decode cX0_readFrom 15 = .ok (.aload_n 0, 1) := by decide +kernel
theorem dX0_readFrom_16 : decode cX0_readFrom 16 = .ok (.iconst 0, 1) := by decide +kernel
theorem dX0_readFrom_17 : decode cX0_readFrom 17 = .ok (.putfield 49, 3) := by decide +kernel
theorem dX0_readFrom_20 : decode cX0_readFrom 20 = .ok (.getstatic 18, 3) := by decide +kernel
theorem dX0_readFrom_23 : decode cX0_readFrom 23 = .ok (.iconst 0, 1) := by decide +kernel
theorem dX0_readFrom_24 : decode cX0_readFrom 24 = .ok (.aload_n 0, 1) := by decide +kernel
theorem dX0_readFrom_25 : decode cX0_readFrom 25 = .ok (.getfield 26, 3) := by decide +kernel
theorem dX0_readFrom_28 : decode cX0_readFrom 28 = .ok (.iconst 0, 1) := by decide +kernel
theorem dX0_readFrom_29 : decode cX0_readFrom 29 = .ok (.bipush 9, 2) := by decide +kernel
theorem dX0_readFrom_31 : decode cX0_readFrom 31 = .ok (.invokestatic 40, 3) := by decide +kernel
theorem dX0_readFrom_34 : decode cX0_readFrom 34 = .ok (.aload_n 1, 1) := by decide +kernel
theorem dX0_readFrom_35 : decode cX0_readFrom 35 = .ok (.sipush 500, 3) := by decide +kernel
theorem dX0_readFrom_38 : decode cX0_readFrom 38 = .ok (.invokevirtual 52, 3) := by decide +kernel
theorem dX0_readFrom_41 : decode cX0_readFrom 41 = .ok (.sipush 540, 3) := by decide +kernel
theorem dX0_readFrom_44 : decode cX0_readFrom 44 = .ok (.istore_n 2, 1) := by decide +kernel
theorem dX0_readFrom_45 : decode cX0_readFrom 45 = .ok (.iload_n 2, 1) := by decide +kernel
theorem dX0_readFrom_46 : decode cX0_readFrom 46 = .ok (.ifCond .le 36, 3) := by decide +kernel
theorem dX0_readFrom_49 : decode cX0_readFrom 49 = .ok (.aload_n 1, 1) := by decide +kernel
theorem dX0_readFrom_50 : decode cX0_readFrom 50 = .ok (.getfield 58, 3) := by decide +kernel
theorem dX0_readFrom_53 : decode cX0_readFrom 53 = .ok (.ifCond .eq 29, 3) := by decide +kernel
theorem dX0_readFrom_56 : decode cX0_readFrom 56 = .ok (.aload_n 0, 1) := by decide +kernel
theorem dX0_readFrom_57 : decode cX0_readFrom 57 = .ok (.aload_n 1, 1) := by decide +kernel
theorem dX0_readFrom_58 : decode cX0_readFrom 58 = .ok (.invokevirtual 61, 3) := by decide +kernel
theorem dX0_readFrom_61 : decode cX0_readFrom 61 = .ok (.ifCond .ne 5, 3) := by decide +kernel
theorem dX0_readFrom_64 : decode cX0_readFrom 64 = .ok (.iconst 0, 1) := by decide +kernel
theorem dX0_readFrom_65 : decode cX0_readFrom 65 = .ok (.ireturn, 1) := by decide +kernel
theorem dX0_readFrom_66 : decode cX0_readFrom 66 = .ok (.aload_n 0, 1) := by decide +kernel
theorem dX0_readFrom_67 : decode cX0_readFrom 67 = .ok (.dup, 1) := by decide +kernel
theorem dX0_readFrom_68 : decode cX0_readFrom 68 = .ok (.getfield 46, 3) := by decide +kernel
theorem dX0_readFrom_71 : decode cX0_readFrom 71 = .ok (.iconst 1, 1) := by decide +kernel
theorem dX0_readFrom_72 : decode cX0_readFrom 72 = .ok (.iadd, 1) := by decide +kernel
theorem dX0_readFrom_73 : decode cX0_readFrom 73 = .ok (.putfield 46, 3) := by decide +kernel
theorem dX0_readFrom_76 : decode cX0_readFrom 76 = .ok (.iinc 2 (-1), 3) := by decide +kernel
theorem dX0_readFrom_79 : decode cX0_readFrom 79 = .ok (.goto (-34), 3) := by decide +kernel
theorem dX0_readFrom_82 : decode cX0_readFrom 82 = .ok (.iconst 1, 1) := by decide +kernel
theorem dX0_readFrom_83 : decode cX0_readFrom 83 = .ok (.ireturn, 1) := by decide +kernel
theorem dX0_readLine_0 : decode cX0_readLine 0 = .ok (.aload_n 1, 1) := by decide +kernel
theorem dX0_readLine_1 : decode cX0_readLine 1 = .ok (.getfield 65, 3) := by decide +kernel
theorem dX0_readLine_4 : decode cX0_readLine 4 = .ok (.istore_n 2, 1) := by decide +kernel
theorem dX0_readLine_5 : decode cX0_readLine 5 = .ok (.iload_n 2, 1) := by decide +kernel
theorem dX0_readLine_6 : decode cX0_readLine 6 = .ok (.ifCond .lt 9, 3) := by decide +kernel
theorem dX0_readLine_9 : decode cX0_readLine 9 = .ok (.iload_n 2, 1) := by decide +kernel
theorem dX0_readLine_10 : decode cX0_readLine 10 = .ok (.bipush 9, 2) := by decide +kernel
theorem dX0_readLine_12 : decode cX0_readLine 12 = .ok (.if_icmp .le 9, 3) := by decide +kernel
theorem dX0_readLine_15 : decode cX0_readLine 15 = .ok (.aload_n 1, 1) := by decide +kernel
theorem dX0_readLine_16 : decode cX0_readLine 16 = .ok (.iconst 1, 1) := by decide +kernel
theorem dX0_readLine_17 : decode cX0_readLine 17 = .ok (.invokevirtual 68, 3) := by decide +kernel
theorem dX0_readLine_20 : decode cX0_readLine 20 = .ok (.ireturn, 1) := by decide +kernel
theorem dX0_readLine_21 : decode cX0_readLine 21 = .ok (.iload_n 2, 1) := by decide +kernel
theorem dX0_readLine_22 : decode cX0_readLine 22 = .ok (.iconst 1, 1) := by decide +kernel
theorem dX0_readLine_23 : decode cX0_readLine 23 = .ok (.if_icmp .gt 15, 3) := by decide +kernel
theorem dX0_readLine_26 : decode cX0_readLine 26 = .ok (.aload_n 0, 1) := by decide +kernel
theorem dX0_readLine_27 : decode cX0_readLine 27 = .ok (.aload_n 1, 1) := by decide +kernel
theorem dX0_readLine_28 : decode cX0_readLine 28 = .ok (.iload_n 2, 1) := by decide +kernel
theorem dX0_readLine_29 : decode cX0_readLine 29 = .ok (.invokevirtual 72, 3) := by decide +kernel
theorem dX0_readLine_32 : decode cX0_readLine 32 = .ok (.ifCond .eq 28, 3) := by decide +kernel
theorem dX0_readLine_35 : decode cX0_readLine 35 = .ok (.goto 12, 3) := by decide +kernel
theorem dX0_readLine_38 : decode cX0_readLine 38 = .ok (.aload_n 0, 1) := by decide +kernel
theorem dX0_readLine_39 : decode cX0_readLine 39 = .ok (.aload_n 1, 1) := by decide +kernel
theorem dX0_readLine_40 : decode cX0_readLine 40 = .ok (.iload_n 2, 1) := by decide +kernel
theorem dX0_readLine_41 : decode cX0_readLine 41 = .ok (.invokevirtual 76, 3) := by decide +kernel
theorem dX0_readLine_44 : decode cX0_readLine 44 = .ok (.ifCond .eq 16, 3) := by decide +kernel
theorem dX0_readLine_47 : decode cX0_readLine 47 = .ok (.aload_n 1, 1) := by decide +kernel
theorem dX0_readLine_48 : decode cX0_readLine 48 = .ok (.bipush 59, 2) := by decide +kernel
theorem dX0_readLine_50 : decode cX0_readLine 50 = .ok (.invokevirtual 79, 3) := by decide +kernel
theorem dX0_readLine_53 : decode cX0_readLine 53 = .ok (.ifCond .eq 7, 3) := by decide +kernel
theorem dX0_readLine_56 : decode cX0_readLine 56 = .ok (.iconst 1, 1) := by decide +kernel
theorem dX0_readLine_57 : decode cX0_readLine 57 = .ok (.goto 4, 3) := by decide +kernel
theorem dX0_readLine_60 : decode cX0_readLine 60 = .ok (.iconst 0, 1) := by decide +kernel
theorem dX0_readLine_61 : decode cX0_readLine 61 = .ok (.ireturn, 1) := by decide +kernel
theorem dX0_readName_0 : decode cX0_readName 0 = .ok (.iload_n 2, 1) := by decide +kernel
theorem dX0_readName_1 : decode cX0_readName 1 = .ok (.ifCond .ne 15, 3) := by decide +kernel
theorem dX0_readName_4 : decode cX0_readName 4 = .ok (.aload_n 0, 1) := by decide +kernel
theorem dX0_readName_5 : decode cX0_readName 5 = .ok (.getfield 29, 3) := by decide +kernel
theorem dX0_readName_8 : decode cX0_readName 8 = .ok (.bipush 6, 2) := by decide +kernel
theorem dX0_readName_10 : decode cX0_readName 10 = .ok (.if_icmp .lt 21, 3) := by decide +kernel
theorem dX0_readName_13 : decode cX0_readName 13 = .ok (.goto 12, 3) := by decide +kernel
theorem dX0_readName_16 : decode cX0_readName 16 = .ok (.aload_n 0, 1) := by decide +kernel
theorem dX0_readName_17 : decode cX0_readName 17 = .ok (.getfield 33, 3) := by decide +kernel
theorem dX0_readName_20 : decode cX0_readName 20 = .ok (.bipush 8, 2) := by decide +kernel
theorem dX0_readName_22 : decode cX0_readName 22 = .ok (.if_icmp .lt 9, 3) := by decide +kernel
theorem dX0_readName_25 : decode cX0_readName 25 = .ok (.aload_n 1, 1) := by decide +kernel
theorem dX0_readName_26 : decode cX0_readName 26 = .ok (.iconst 4, 1) := by decide +kernel
theorem dX0_readName_27 : decode cX0_readName 27 = .ok (.invokevirtual 68, 3) := by decide +kernel
theorem dX0_readName_30 : decode cX0_readName 30 = .ok (.ireturn, 1) := by decide +kernel
theorem dX0_readName_31 : decode cX0_readName 31 = .ok (.aload_n 1, 1) := by decide +kernel
theorem dX0_readName_32 : decode cX0_readName 32 = .ok (.invokevirtual 82, 3) := by decide +kernel
theorem dX0_readName_35 : decode cX0_readName 35 = .ok (.aload_n 1, 1) := by decide +kernel
theorem dX0_readName_36 : decode cX0_readName 36 = .ok (.invokevirtual 85, 3) := by decide +kernel
theorem dX0_readName_39 : decode cX0_readName 39 = .ok (.ifCond .ne 9, 3) := by decide +kernel
theorem dX0_readName_42 : decode cX0_readName 42 = .ok (.aload_n 1, 1) := by decide +kernel
theorem dX0_readName_43 : decode cX0_readName 43 = .ok (.iconst 1, 1) := by decide +kernel
theorem dX0_readName_44 : decode cX0_readName 44 = .ok (.invokevirtual 68, 3) := by decide +kernel
theorem dX0_readName_47 : decode cX0_readName 47 = .ok (.ireturn, 1) := by decide +kernel
theorem dX0_readName_48 : decode cX0_readName 48 = .ok (.aload_n 0, 1) := by decide +kernel
theorem dX0_readName_49 : decode cX0_readName 49 = .ok (.aload_n 1, 1) := by decide +kernel
theorem dX0_readName_50 : decode cX0_readName 50 = .ok (.getfield 89, 3) := by decide +kernel
theorem dX0_readName_53 : decode cX0_readName 53 = .ok (.invokevirtual 92, 3) := by decide +kernel
theorem dX0_readName_56 : decode cX0_readName 56 = .ok (.ifCond .eq 9, 3) := by decide +kernel
theorem dX0_readName_59 : decode cX0_readName 59 = .ok (.aload_n 1, 1) := by decide +kernel
theorem dX0_readName_60 : decode cX0_readName 60 = .ok (.iconst 3, 1) := by decide +kernel
theorem dX0_readName_61 : decode cX0_readName 61 = .ok (.invokevirtual 68, 3) := by decide +kernel
theorem dX0_readName_64 : decode cX0_readName 64 = .ok (.ireturn, 1) := by decide +kernel
theorem dX0_readName_65 : decode cX0_readName 65 = .ok (.iload_n 2, 1) := by decide +kernel
theorem dX0_readName_66 : decode cX0_readName 66 = .ok (.ifCond .ne 29, 3) := by decide +kernel
theorem dX0_readName_69 : decode cX0_readName 69 = .ok (.aload_n 0, 1) := by decide +kernel
theorem dX0_readName_70 : decode cX0_readName 70 = .ok (.getfield 9, 3) := by decide +kernel
theorem dX0_readName_73 : decode cX0_readName 73 = .ok (.aload_n 0, 1) := by decide +kernel
theorem dX0_readName_74 : decode cX0_readName 74 = .ok (.getfield 29, 3) := by decide +kernel
theorem dX0_readName_77 : decode cX0_readName 77 = .ok (.aload_n 1, 1) := by decide +kernel
theorem dX0_readName_78 : decode cX0_readName 78 = .ok (.getfield 89, 3) := by decide +kernel
theorem dX0_readName_81 : decode cX0_readName 81 = .ok (.iastore, 1) := by decide +kernel
theorem dX0_readName_82 : decode cX0_readName 82 = .ok (.aload_n 0, 1) := by decide +kernel
theorem dX0_readName_83 : decode cX0_readName 83 = .ok (.dup, 1) := by decide +kernel
theorem dX0_readName_84 : decode cX0_readName 84 = .ok (.getfield 29, 3) := by decide +kernel
theorem dX0_readName_87 : decode cX0_readName 87 = .ok (.iconst 1, 1) := by decide +kernel
theorem dX0_readName_88 : decode cX0_readName 88 = .ok (.iadd, 1) := by decide +kernel
theorem dX0_readName_89 : decode cX0_readName 89 = .ok (.putfield 29, 3) := by decide +kernel
theorem dX0_readName_92 : decode cX0_readName 92 = .ok (.goto 26, 3) := by decide +kernel
theorem dX0_readName_95 : decode cX0_readName 95 = .ok (.aload_n 0, 1) := by decide +kernel
theorem dX0_readName_96 : decode cX0_readName 96 = .ok (.getfield 15, 3) := by decide +kernel
theorem dX0_readName_99 : decode cX0_readName 99 = .ok (.aload_n 0, 1) := by decide +kernel
theorem dX0_readName_100 : decode cX0_readName 100 = .ok (.getfield 33, 3) := by decide +kernel
theorem dX0_readName_103 : decode cX0_readName 103 = .ok (.aload_n 1, 1) := by decide +kernel
theorem dX0_readName_104 : decode cX0_readName 104 = .ok (.getfield 89, 3) := by decide +kernel
theorem dX0_readName_107 : decode cX0_readName 107 = .ok (.iastore, 1) := by decide +kernel
theorem dX0_readName_108 : decode cX0_readName 108 = .ok (.aload_n 0, 1) := by decide +kernel
theorem dX0_readName_109 : decode cX0_readName 109 = .ok (.dup, 1) := by decide +kernel
theorem dX0_readName_110 : decode cX0_readName 110 = .ok (.getfield 33, 3) := by decide +kernel
theorem dX0_readName_113 : decode cX0_readName 113 = .ok (.iconst 1, 1) := by decide +kernel
theorem dX0_readName_114 : decode cX0_readName 114 = .ok (.iadd, 1) := by decide +kernel
theorem dX0_readName_115 : decode cX0_readName 115 = .ok (.putfield 33, 3) := by decide +kernel
theorem dX0_readName_118 : decode cX0_readName 118 = .ok (.aload_n 1, 1) := by decide +kernel
theorem dX0_readName_119 : decode cX0_readName 119 = .ok (.invokevirtual 82, 3) := by decide +kernel
theorem dX0_readName_122 : decode cX0_readName 122 = .ok (.iconst 1, 1) := by decide +kernel
theorem dX0_readName_123 : decode cX0_readName 123 = .ok (.ireturn, 1) := by decide +kernel
theorem dX0_readLaw_0 : decode cX0_readLaw 0 = .ok (.aload_n 0, 1) := by decide +kernel
theorem dX0_readLaw_1 : decode cX0_readLaw 1 = .ok (.getfield 49, 3) := by decide +kernel
theorem dX0_readLaw_4 : decode cX0_readLaw 4 = .ok (.iload_n 2, 1) := by decide +kernel
theorem dX0_readLaw_5 : decode cX0_readLaw 5 = .ok (.ishr, 1) := by decide +kernel
theorem dX0_readLaw_6 : decode cX0_readLaw 6 = .ok (.iconst 1, 1) := by decide +kernel
theorem dX0_readLaw_7 : decode cX0_readLaw 7 = .ok (.iand, 1) := by decide +kernel
theorem dX0_readLaw_8 : decode cX0_readLaw 8 = .ok (.ifCond .eq 9, 3) := by decide +kernel
theorem dX0_readLaw_11 : decode cX0_readLaw 11 = .ok (.aload_n 1, 1) := by decide +kernel
theorem dX0_readLaw_12 : decode cX0_readLaw 12 = .ok (.iconst 3, 1) := by decide +kernel
theorem dX0_readLaw_13 : decode cX0_readLaw 13 = .ok (.invokevirtual 68, 3) := by decide +kernel
theorem dX0_readLaw_16 : decode cX0_readLaw 16 = .ok (.ireturn, 1) := by decide +kernel
theorem dX0_readLaw_17 : decode cX0_readLaw 17 = .ok (.aload_n 0, 1) := by decide +kernel
theorem dX0_readLaw_18 : decode cX0_readLaw 18 = .ok (.dup, 1) := by decide +kernel
theorem dX0_readLaw_19 : decode cX0_readLaw 19 = .ok (.getfield 49, 3) := by decide +kernel
theorem dX0_readLaw_22 : decode cX0_readLaw 22 = .ok (.iconst 1, 1) := by decide +kernel
theorem dX0_readLaw_23 : decode cX0_readLaw 23 = .ok (.iload_n 2, 1) := by decide +kernel
theorem dX0_readLaw_24 : decode cX0_readLaw 24 = .ok (.ishl, 1) := by decide +kernel
theorem dX0_readLaw_25 : decode cX0_readLaw 25 = .ok (.ior, 1) := by decide +kernel
theorem dX0_readLaw_26 : decode cX0_readLaw 26 = .ok (.putfield 49, 3) := by decide +kernel
theorem dX0_readLaw_29 : decode cX0_readLaw 29 = .ok (.aload_n 1, 1) := by decide +kernel
theorem dX0_readLaw_30 : decode cX0_readLaw 30 = .ok (.invokevirtual 82, 3) := by decide +kernel
theorem dX0_readLaw_33 : decode cX0_readLaw 33 = .ok (.iload_n 2, 1) := by decide +kernel
theorem dX0_readLaw_34 : decode cX0_readLaw 34 = .ok (.iconst 2, 1) := by decide +kernel
theorem dX0_readLaw_35 : decode cX0_readLaw 35 = .ok (.if_icmp .ne 27, 3) := by decide +kernel
theorem dX0_readLaw_38 : decode cX0_readLaw 38 = .ok (.aload_n 0, 1) := by decide +kernel
theorem dX0_readLaw_39 : decode cX0_readLaw 39 = .ok (.aload_n 1, 1) := by decide +kernel
theorem dX0_readLaw_40 : decode cX0_readLaw 40 = .ok (.iconst 0, 1) := by decide +kernel
theorem dX0_readLaw_41 : decode cX0_readLaw 41 = .ok (.invokevirtual 95, 3) := by decide +kernel
theorem dX0_readLaw_44 : decode cX0_readLaw 44 = .ok (.ifCond .eq 16, 3) := by decide +kernel
theorem dX0_readLaw_47 : decode cX0_readLaw 47 = .ok (.aload_n 0, 1) := by decide +kernel
theorem dX0_readLaw_48 : decode cX0_readLaw 48 = .ok (.aload_n 1, 1) := by decide +kernel
theorem dX0_readLaw_49 : decode cX0_readLaw 49 = .ok (.iconst 1, 1) := by decide +kernel
theorem dX0_readLaw_50 : decode cX0_readLaw 50 = .ok (.invokevirtual 95, 3) := by decide +kernel
theorem dX0_readLaw_53 : decode cX0_readLaw 53 = .ok (.ifCond .eq 7, 3) := by decide +kernel
theorem dX0_readLaw_56 : decode cX0_readLaw 56 = .ok (.iconst 1, 1) := by decide +kernel
theorem dX0_readLaw_57 : decode cX0_readLaw 57 = .ok (.goto 4, 3) := by decide +kernel
theorem dX0_readLaw_60 : decode cX0_readLaw 60 = .ok (.iconst 0, 1) := by decide +kernel
theorem dX0_readLaw_61 : decode cX0_readLaw 61 = .ok (.ireturn, 1) := by decide +kernel
theorem dX0_readLaw_62 : decode cX0_readLaw 62 = .ok (.aload_n 0, 1) := by decide +kernel
theorem dX0_readLaw_63 : decode cX0_readLaw 63 = .ok (.aload_n 1, 1) := by decide +kernel
theorem dX0_readLaw_64 : decode cX0_readLaw 64 = .ok (.iload_n 2, 1) := by decide +kernel
theorem dX0_readLaw_65 : decode cX0_readLaw 65 = .ok (.iconst 2, 1) := by decide +kernel
theorem dX0_readLaw_66 : decode cX0_readLaw 66 = .ok (.isub, 1) := by decide +kernel
theorem dX0_readLaw_67 : decode cX0_readLaw 67 = .ok (.iconst 1, 1) := by decide +kernel
theorem dX0_readLaw_68 : decode cX0_readLaw 68 = .ok (.iadd, 1) := by decide +kernel
theorem dX0_readLaw_69 : decode cX0_readLaw 69 = .ok (.invokevirtual 95, 3) := by decide +kernel
theorem dX0_readLaw_72 : decode cX0_readLaw 72 = .ok (.ireturn, 1) := by decide +kernel
theorem dX0_readValue_0 : decode cX0_readValue 0 = .ok (.iload_n 2, 1) := by decide +kernel
theorem dX0_readValue_1 : decode cX0_readValue 1 = .ok (.ifCond .lt 26, 3) := by decide +kernel
theorem dX0_readValue_4 : decode cX0_readValue 4 = .ok (.iload_n 2, 1) := by decide +kernel
theorem dX0_readValue_5 : decode cX0_readValue 5 = .ok (.bipush 9, 2) := by decide +kernel
theorem dX0_readValue_7 : decode cX0_readValue 7 = .ok (.if_icmp .ge 20, 3) := by decide +kernel
theorem dX0_readValue_10 : decode cX0_readValue 10 = .ok (.aload_n 1, 1) := by decide +kernel
theorem dX0_readValue_11 : decode cX0_readValue 11 = .ok (.getstatic 98, 3) := by decide +kernel
theorem dX0_readValue_14 : decode cX0_readValue 14 = .ok (.iload_n 2, 1) := by decide +kernel
theorem dX0_readValue_15 : decode cX0_readValue 15 = .ok (.iaload, 1) := by decide +kernel
theorem dX0_readValue_16 : decode cX0_readValue 16 = .ok (.getstatic 101, 3) := by decide +kernel
theorem dX0_readValue_19 : decode cX0_readValue 19 = .ok (.iload_n 2, 1) := by decide +kernel
theorem dX0_readValue_20 : decode cX0_readValue 20 = .ok (.iaload, 1) := by decide +kernel
theorem dX0_readValue_21 : decode cX0_readValue 21 = .ok (.invokevirtual 104, 3) := by decide +kernel
theorem dX0_readValue_24 : decode cX0_readValue 24 = .ok (.ifCond .ne 5, 3) := by decide +kernel
theorem dX0_readValue_27 : decode cX0_readValue 27 = .ok (.iconst 0, 1) := by decide +kernel
theorem dX0_readValue_28 : decode cX0_readValue 28 = .ok (.ireturn, 1) := by decide +kernel
theorem dX0_readValue_29 : decode cX0_readValue 29 = .ok (.aload_n 0, 1) := by decide +kernel
theorem dX0_readValue_30 : decode cX0_readValue 30 = .ok (.getfield 26, 3) := by decide +kernel
theorem dX0_readValue_33 : decode cX0_readValue 33 = .ok (.iload_n 2, 1) := by decide +kernel
theorem dX0_readValue_34 : decode cX0_readValue 34 = .ok (.aload_n 1, 1) := by decide +kernel
theorem dX0_readValue_35 : decode cX0_readValue 35 = .ok (.getfield 89, 3) := by decide +kernel
theorem dX0_readValue_38 : decode cX0_readValue 38 = .ok (.iastore, 1) := by decide +kernel
theorem dX0_readValue_39 : decode cX0_readValue 39 = .ok (.aload_n 1, 1) := by decide +kernel
theorem dX0_readValue_40 : decode cX0_readValue 40 = .ok (.invokevirtual 82, 3) := by decide +kernel
theorem dX0_readValue_43 : decode cX0_readValue 43 = .ok (.iconst 1, 1) := by decide +kernel
theorem dX0_readValue_44 : decode cX0_readValue 44 = .ok (.ireturn, 1) := by decide +kernel
