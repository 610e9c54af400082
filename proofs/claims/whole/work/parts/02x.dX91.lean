theorem dX10_init_0 : decode cX10_init 0 = .ok (.aload_n 0, 1) := by decide +kernel
theorem dX10_init_1 : decode cX10_init 1 = .ok (.invokespecial 3, 3) := by decide +kernel
theorem dX10_init_4 : decode cX10_init 4 = .ok (.aload_n 0, 1) := by decide +kernel
theorem dX10_init_5 : decode cX10_init 5 = .ok (.bipush 12, 2) := by decide +kernel
theorem dX10_init_7 : decode cX10_init 7 = .ok (.newarray .int, 2) := by decide +kernel
theorem dX10_init_9 : decode cX10_init 9 = .ok (.putfield 11, 3) := by decide +kernel
theorem dX10_init_12 : decode cX10_init 12 = .ok (.aload_n 0, 1) := by decide +kernel
theorem dX10_init_13 : decode cX10_init 13 = .ok (.bipush 12, 2) := by decide +kernel
theorem dX10_init_15 : decode cX10_init 15 = .ok (.newarray .int, 2) := by decide +kernel
theorem dX10_init_17 : decode cX10_init 17 = .ok (.putfield 15, 3) := by decide +kernel
theorem dX10_init_20 : decode cX10_init 20 = .ok (.aload_n 0, 1) := by decide +kernel
theorem dX10_init_21 : decode cX10_init 21 = .ok (.bipush 12, 2) := by decide +kernel
theorem dX10_init_23 : decode cX10_init 23 = .ok (.newarray .int, 2) := by decide +kernel
theorem dX10_init_25 : decode cX10_init 25 = .ok (.putfield 18, 3) := by decide +kernel
theorem dX10_init_28 : decode cX10_init 28 = .ok (.aload_n 0, 1) := by decide +kernel
theorem dX10_init_29 : decode cX10_init 29 = .ok (.bipush 64, 2) := by decide +kernel
theorem dX10_init_31 : decode cX10_init 31 = .ok (.newarray .int, 2) := by decide +kernel
theorem dX10_init_33 : decode cX10_init 33 = .ok (.putfield 21, 3) := by decide +kernel
theorem dX10_init_36 : decode cX10_init 36 = .ok (.aload_n 0, 1) := by decide +kernel
theorem dX10_init_37 : decode cX10_init 37 = .ok (.bipush 64, 2) := by decide +kernel
theorem dX10_init_39 : decode cX10_init 39 = .ok (.newarray .int, 2) := by decide +kernel
theorem dX10_init_41 : decode cX10_init 41 = .ok (.putfield 24, 3) := by decide +kernel
theorem dX10_init_44 : decode cX10_init 44 = .ok (.aload_n 0, 1) := by decide +kernel
theorem dX10_init_45 : decode cX10_init 45 = .ok (.bipush 64, 2) := by decide +kernel
theorem dX10_init_47 : decode cX10_init 47 = .ok (.newarray .int, 2) := by decide +kernel
theorem dX10_init_49 : decode cX10_init 49 = .ok (.putfield 27, 3) := by decide +kernel
theorem dX10_init_52 : decode cX10_init 52 = .ok (.aload_n 0, 1) := by decide +kernel
theorem dX10_init_53 : decode cX10_init 53 = .ok (.bipush 12, 2) := by decide +kernel
theorem dX10_init_55 : decode cX10_init 55 = .ok (.newarray .int, 2) := by decide +kernel
theorem dX10_init_57 : decode cX10_init 57 = .ok (.putfield 30, 3) := by decide +kernel
theorem dX10_init_60 : decode cX10_init 60 = .ok (.return_, 1) := by decide +kernel
theorem dX10_readFrom_0 : decode cX10_readFrom 0 = .ok (.aload_n 0, 1) := by decide +kernel
theorem dX10_readFrom_1 : decode cX10_readFrom 1 = .ok (.iconst 0, 1) := by decide +kernel
theorem dX10_readFrom_2 : decode cX10_readFrom 2 = .ok (.putfield 33, 3) := by decide +kernel
theorem dX10_readFrom_5 : decode cX10_readFrom 5 = .ok (.aload_n 0, 1) := by decide +kernel
theorem dX10_readFrom_6 : decode cX10_readFrom 6 = .ok (.iconst 0, 1) := by decide +kernel
theorem dX10_readFrom_7 : decode cX10_readFrom 7 = .ok (.putfield 37, 3) := by decide +kernel
theorem dX10_readFrom_10 : decode cX10_readFrom 10 = .ok (.aload_n 1, 1) := by decide +kernel
theorem dX10_readFrom_11 : decode cX10_readFrom 11 = .ok (.sipush 400, 3) := by decide +kernel
theorem dX10_readFrom_14 : decode cX10_readFrom 14 = .ok (.invokevirtual 40, 3) := by decide +kernel
theorem dX10_readFrom_17 : decode cX10_readFrom 17 = .ok (.sipush 540, 3) := by decide +kernel
theorem dX10_readFrom_20 : decode cX10_readFrom 20 = .ok (.istore_n 2, 1) := by decide +kernel
theorem dX10_readFrom_21 : decode cX10_readFrom 21 = .ok (.iload_n 2, 1) := by decide +kernel
theorem dX10_readFrom_22 : decode cX10_readFrom 22 = .ok (.ifCond .le 36, 3) := by decide +kernel
theorem dX10_readFrom_25 : decode cX10_readFrom 25 = .ok (.aload_n 1, 1) := by decide +kernel
theorem dX10_readFrom_26 : decode cX10_readFrom 26 = .ok (.getfield 46, 3) := by decide +kernel
theorem dX10_readFrom_29 : decode cX10_readFrom 29 = .ok (.ifCond .eq 29, 3) := by decide +kernel
theorem dX10_readFrom_32 : decode cX10_readFrom 32 = .ok (.aload_n 0, 1) := by decide +kernel
theorem dX10_readFrom_33 : decode cX10_readFrom 33 = .ok (.aload_n 1, 1) := by decide +kernel
theorem dX10_readFrom_34 : decode cX10_readFrom 34 = .ok (.invokevirtual 49, 3) := by decide +kernel
theorem dX10_readFrom_37 : decode cX10_readFrom 37 = .ok (.ifCond .ne 5, 3) := by decide +kernel
theorem dX10_readFrom_40 : decode cX10_readFrom 40 = .ok (.iconst 0, 1) := by decide +kernel
theorem dX10_readFrom_41 : decode cX10_readFrom 41 = .ok (.ireturn, 1) := by decide +kernel
theorem dX10_readFrom_42 : decode cX10_readFrom 42 = .ok (.aload_n 0, 1) := by decide +kernel
theorem dX10_readFrom_43 : decode cX10_readFrom 43 = .ok (.dup, 1) := by decide +kernel
theorem dX10_readFrom_44 : decode cX10_readFrom 44 = .ok (.getfield 33, 3) := by decide +kernel
theorem dX10_readFrom_47 : decode cX10_readFrom 47 = .ok (.iconst 1, 1) := by decide +kernel
theorem dX10_readFrom_48 : decode cX10_readFrom 48 = .ok (.iadd, 1) := by decide +kernel
theorem dX10_readFrom_49 : decode cX10_readFrom 49 = .ok (.putfield 33, 3) := by decide +kernel
theorem dX10_readFrom_52 : decode cX10_readFrom 52 = .ok (.iinc 2 (-1), 3) := by decide +kernel
theorem dX10_readFrom_55 : decode cX10_readFrom 55 = .ok (.goto (-34), 3) := by decide +kernel
theorem dX10_readFrom_58 : decode cX10_readFrom 58 = .ok (.iconst 1, 1) := by decide +kernel
theorem dX10_readFrom_59 : decode cX10_readFrom 59 = .ok (.ireturn, 1) := by decide +kernel
theorem dX10_readStrip_0 : decode cX10_readStrip 0 = .ok (.aload_n 1, 1) := by decide +kernel
theorem dX10_readStrip_1 : decode cX10_readStrip 1 = .ok (.getfield 53, 3) := by decide +kernel
theorem dX10_readStrip_4 : decode cX10_readStrip 4 = .ok (.bipush 20, 2) := by decide +kernel
theorem dX10_readStrip_6 : decode cX10_readStrip 6 = .ok (.if_icmp .eq 9, 3) := by decide +kernel
theorem dX10_readStrip_9 : decode cX10_readStrip 9 = .ok (.aload_n 1, 1) := by decide +kernel
theorem dX10_readStrip_10 : decode cX10_readStrip 10 = .ok (.iconst 1, 1) := by decide +kernel
theorem dX10_readStrip_11 : decode cX10_readStrip 11 = .ok (.invokevirtual 56, 3) := by decide +kernel
theorem dX10_readStrip_14 : decode cX10_readStrip 14 = .ok (.ireturn, 1) := by decide +kernel
theorem dX10_readStrip_15 : decode cX10_readStrip 15 = .ok (.aload_n 0, 1) := by decide +kernel
theorem dX10_readStrip_16 : decode cX10_readStrip 16 = .ok (.getfield 33, 3) := by decide +kernel
theorem dX10_readStrip_19 : decode cX10_readStrip 19 = .ok (.bipush 12, 2) := by decide +kernel
theorem dX10_readStrip_21 : decode cX10_readStrip 21 = .ok (.if_icmp .lt 9, 3) := by decide +kernel
theorem dX10_readStrip_24 : decode cX10_readStrip 24 = .ok (.aload_n 1, 1) := by decide +kernel
theorem dX10_readStrip_25 : decode cX10_readStrip 25 = .ok (.iconst 4, 1) := by decide +kernel
theorem dX10_readStrip_26 : decode cX10_readStrip 26 = .ok (.invokevirtual 56, 3) := by decide +kernel
theorem dX10_readStrip_29 : decode cX10_readStrip 29 = .ok (.ireturn, 1) := by decide +kernel
theorem dX10_readStrip_30 : decode cX10_readStrip 30 = .ok (.aload_n 1, 1) := by decide +kernel
theorem dX10_readStrip_31 : decode cX10_readStrip 31 = .ok (.invokevirtual 60, 3) := by decide +kernel
theorem dX10_readStrip_34 : decode cX10_readStrip 34 = .ok (.aload_n 1, 1) := by decide +kernel
theorem dX10_readStrip_35 : decode cX10_readStrip 35 = .ok (.invokevirtual 63, 3) := by decide +kernel
theorem dX10_readStrip_38 : decode cX10_readStrip 38 = .ok (.ifCond .ne 9, 3) := by decide +kernel
theorem dX10_readStrip_41 : decode cX10_readStrip 41 = .ok (.aload_n 1, 1) := by decide +kernel
theorem dX10_readStrip_42 : decode cX10_readStrip 42 = .ok (.iconst 1, 1) := by decide +kernel
theorem dX10_readStrip_43 : decode cX10_readStrip 43 = .ok (.invokevirtual 56, 3) := by decide +kernel
theorem dX10_readStrip_46 : decode cX10_readStrip 46 = .ok (.ireturn, 1) := by decide +kernel
theorem dX10_readStrip_47 : decode cX10_readStrip 47 = .ok (.aload_n 0, 1) := by decide +kernel
theorem dX10_readStrip_48 : decode cX10_readStrip 48 = .ok (.aload_n 1, 1) := by decide +kernel
theorem dX10_readStrip_49 : decode cX10_readStrip 49 = .ok (.getfield 67, 3) := by decide +kernel
theorem dX10_readStrip_52 : decode cX10_readStrip 52 = .ok (.invokevirtual 70, 3) := by decide +kernel
theorem dX10_readStrip_55 : decode cX10_readStrip 55 = .ok (.iconst (-1), 1) := by decide +kernel
theorem dX10_readStrip_56 : decode cX10_readStrip 56 = .ok (.if_icmp .eq 9, 3) := by decide +kernel
theorem dX10_readStrip_59 : decode cX10_readStrip 59 = .ok (.aload_n 1, 1) := by decide +kernel
theorem dX10_readStrip_60 : decode cX10_readStrip 60 = .ok (.iconst 3, 1) := by decide +kernel
theorem dX10_readStrip_61 : decode cX10_readStrip 61 = .ok (.invokevirtual 56, 3) := by decide +kernel
theorem dX10_readStrip_64 : decode cX10_readStrip 64 = .ok (.ireturn, 1) := by decide +kernel
theorem dX10_readStrip_65 : decode cX10_readStrip 65 = .ok (.aload_n 0, 1) := by decide +kernel
theorem dX10_readStrip_66 : decode cX10_readStrip 66 = .ok (.getfield 30, 3) := by decide +kernel
theorem dX10_readStrip_69 : decode cX10_readStrip 69 = .ok (.aload_n 0, 1) := by decide +kernel
theorem dX10_readStrip_70 : decode cX10_readStrip 70 = .ok (.getfield 33, 3) := by decide +kernel
theorem dX10_readStrip_73 : decode cX10_readStrip 73 = .ok (.aload_n 1, 1) := by decide +kernel
theorem dX10_readStrip_74 : decode cX10_readStrip 74 = .ok (.getfield 67, 3) := by decide +kernel
theorem dX10_readStrip_77 : decode cX10_readStrip 77 = .ok (.iastore, 1) := by decide +kernel
theorem dX10_readStrip_78 : decode cX10_readStrip 78 = .ok (.aload_n 1, 1) := by decide +kernel
theorem dX10_readStrip_79 : decode cX10_readStrip 79 = .ok (.invokevirtual 60, 3) := by decide +kernel
theorem dX10_readStrip_82 : decode cX10_readStrip 82 = .ok (.aload_n 0, 1) := by decide +kernel
theorem dX10_readStrip_83 : decode cX10_readStrip 83 = .ok (.aload_n 1, 1) := by decide +kernel
theorem dX10_readStrip_84 : decode cX10_readStrip 84 = .ok (.invokevirtual 74, 3) := by decide +kernel
theorem dX10_readStrip_87 : decode cX10_readStrip 87 = .ok (.ifCond .eq 32, 3) := by decide +kernel
theorem dX10_readStrip_90 : decode cX10_readStrip 90 = .ok (.aload_n 0, 1) := by decide +kernel
theorem dX10_readStrip_91 : decode cX10_readStrip 91 = .ok (.aload_n 1, 1) := by decide +kernel
theorem dX10_readStrip_92 : decode cX10_readStrip 92 = .ok (.invokevirtual 77, 3) := by decide +kernel
theorem dX10_readStrip_95 : decode cX10_readStrip 95 = .ok (.ifCond .eq 24, 3) := by decide +kernel
theorem dX10_readStrip_98 : decode cX10_readStrip 98 = .ok (.aload_n 0, 1) := by decide +kernel
theorem dX10_readStrip_99 : decode cX10_readStrip 99 = .ok (.aload_n 1, 1) := by decide +kernel
theorem dX10_readStrip_100 : decode cX10_readStrip 100 = .ok (.invokevirtual 80, 3) := by decide +kernel
theorem dX10_readStrip_103 : decode cX10_readStrip 103 = .ok (.ifCond .eq 16, 3) := by decide +kernel
theorem dX10_readStrip_106 : decode cX10_readStrip 106 = .ok (.aload_n 1, 1) := by decide +kernel
theorem dX10_readStrip_107 : decode cX10_readStrip 107 = .ok (.bipush 59, 2) := by decide +kernel
theorem dX10_readStrip_109 : decode cX10_readStrip 109 = .ok (.invokevirtual 83, 3) := by decide +kernel
theorem dX10_readStrip_112 : decode cX10_readStrip 112 = .ok (.ifCond .eq 7, 3) := by decide +kernel
theorem dX10_readStrip_115 : decode cX10_readStrip 115 = .ok (.iconst 1, 1) := by decide +kernel
theorem dX10_readStrip_116 : decode cX10_readStrip 116 = .ok (.goto 4, 3) := by decide +kernel
theorem dX10_readStrip_119 : decode cX10_readStrip 119 = .ok (.iconst 0, 1) := by decide +kernel
theorem dX10_readStrip_120 : decode cX10_readStrip 120 = .ok (.ireturn, 1) := by decide +kernel
theorem dX10_named_0 : decode cX10_named 0 = .ok (.iconst 0, 1) := by decide +kernel
theorem dX10_named_1 : decode cX10_named 1 = .ok (.istore_n 2, 1) := by decide +kernel
theorem dX10_named_2 : decode cX10_named 2 = .ok (.iload_n 2, 1) := by decide +kernel
theorem dX10_named_3 : decode cX10_named 3 = .ok (.aload_n 0, 1) := by decide +kernel
theorem dX10_named_4 : decode cX10_named 4 = .ok (.getfield 33, 3) := by decide +kernel
theorem dX10_named_7 : decode cX10_named 7 = .ok (.if_icmp .ge 21, 3) := by decide +kernel
theorem dX10_named_10 : decode cX10_named 10 = .ok (.aload_n 0, 1) := by decide +kernel
theorem dX10_named_11 : decode cX10_named 11 = .ok (.getfield 30, 3) := by decide +kernel
theorem dX10_named_14 : decode cX10_named 14 = .ok (.iload_n 2, 1) := by decide +kernel
theorem dX10_named_15 : decode cX10_named 15 = .ok (.iaload, 1) := by decide +kernel
theorem dX10_named_16 : decode cX10_named 16 = .ok (.iload_n 1, 1) := by decide +kernel
theorem dX10_named_17 : decode cX10_named 17 = .ok (.if_icmp .ne 5, 3) := by decide +kernel
theorem dX10_named_20 : decode cX10_named 20 = .ok (.iload_n 2, 1) := by decide +kernel
theorem dX10_named_21 : decode cX10_named 21 = .ok (.ireturn, 1) := by decide +kernel
theorem dX10_named_22 : decode cX10_named 22 = .ok (.iinc 2 1, 3) := by decide +kernel
theorem dX10_named_25 : decode cX10_named 25 = .ok (.goto (-23), 3) := by decide +kernel
theorem dX10_named_28 : decode cX10_named 28 = .ok (.iconst (-1), 1) := by decide +kernel
theorem dX10_named_29 : decode cX10_named 29 = .ok (.ireturn, 1) := by decide +kernel
theorem dX10_readNode_0 : decode cX10_readNode 0 = .ok (.aload_n 1, 1) := by decide +kernel
theorem dX10_readNode_1 : decode cX10_readNode 1 = .ok (.iconst 0, 1) := by decide +kernel
theorem dX10_readNode_2 : decode cX10_readNode 2 = .ok (.bipush 59, 2) := by decide +kernel
theorem dX10_readNode_4 : decode cX10_readNode 4 = .ok (.invokevirtual 86, 3) := by decide +kernel
theorem dX10_readNode_7 : decode cX10_readNode 7 = .ok (.ifCond .ne 5, 3) := by decide +kernel
theorem dX10_readNode_10 : decode cX10_readNode 10 = .ok (.iconst 0, 1) := by decide +kernel
theorem dX10_readNode_11 : decode cX10_readNode 11 = .ok (.ireturn, 1) := by decide +kernel
theorem dX10_readNode_12 : decode cX10_readNode 12 = .ok (.aload_n 0, 1) := by decide +kernel
theorem dX10_readNode_13 : decode cX10_readNode 13 = .ok (.iconst 2, 1) := by decide +kernel
theorem dX10_readNode_14 : decode cX10_readNode 14 = .ok (.aload_n 1, 1) := by decide +kernel
theorem dX10_readNode_15 : decode cX10_readNode 15 = .ok (.getfield 67, 3) := by decide +kernel
theorem dX10_readNode_18 : decode cX10_readNode 18 = .ok (.imul, 1) := by decide +kernel
theorem dX10_readNode_19 : decode cX10_readNode 19 = .ok (.putfield 90, 3) := by decide +kernel
theorem dX10_readNode_22 : decode cX10_readNode 22 = .ok (.aload_n 1, 1) := by decide +kernel
theorem dX10_readNode_23 : decode cX10_readNode 23 = .ok (.invokevirtual 60, 3) := by decide +kernel
theorem dX10_readNode_26 : decode cX10_readNode 26 = .ok (.aload_n 1, 1) := by decide +kernel
theorem dX10_readNode_27 : decode cX10_readNode 27 = .ok (.getfield 46, 3) := by decide +kernel
theorem dX10_readNode_30 : decode cX10_readNode 30 = .ok (.bipush 43, 2) := by decide +kernel
theorem dX10_readNode_32 : decode cX10_readNode 32 = .ok (.if_icmp .eq 18, 3) := by decide +kernel
theorem dX10_readNode_35 : decode cX10_readNode 35 = .ok (.aload_n 1, 1) := by decide +kernel
theorem dX10_readNode_36 : decode cX10_readNode 36 = .ok (.getfield 46, 3) := by decide +kernel
theorem dX10_readNode_39 : decode cX10_readNode 39 = .ok (.bipush 45, 2) := by decide +kernel
theorem dX10_readNode_41 : decode cX10_readNode 41 = .ok (.if_icmp .eq 9, 3) := by decide +kernel
theorem dX10_readNode_44 : decode cX10_readNode 44 = .ok (.aload_n 1, 1) := by decide +kernel
theorem dX10_readNode_45 : decode cX10_readNode 45 = .ok (.iconst 1, 1) := by decide +kernel
theorem dX10_readNode_46 : decode cX10_readNode 46 = .ok (.invokevirtual 56, 3) := by decide +kernel
theorem dX10_readNode_49 : decode cX10_readNode 49 = .ok (.ireturn, 1) := by decide +kernel
theorem dX10_readNode_50 : decode cX10_readNode 50 = .ok (.aload_n 0, 1) := by decide +kernel
theorem dX10_readNode_51 : decode cX10_readNode 51 = .ok (.dup, 1) := by decide +kernel
theorem dX10_readNode_52 : decode cX10_readNode 52 = .ok (.getfield 90, 3) := by decide +kernel
theorem dX10_readNode_55 : decode cX10_readNode 55 = .ok (.aload_n 1, 1) := by decide +kernel
theorem dX10_readNode_56 : decode cX10_readNode 56 = .ok (.getfield 46, 3) := by decide +kernel
theorem dX10_readNode_59 : decode cX10_readNode 59 = .ok (.bipush 43, 2) := by decide +kernel
theorem dX10_readNode_61 : decode cX10_readNode 61 = .ok (.if_icmp .ne 7, 3) := by decide +kernel
theorem dX10_readNode_64 : decode cX10_readNode 64 = .ok (.iconst 1, 1) := by decide +kernel
theorem dX10_readNode_65 : decode cX10_readNode 65 = .ok (.goto 4, 3) := by decide +kernel
theorem dX10_readNode_68 : decode cX10_readNode 68 = .ok (.iconst 0, 1) := by decide +kernel
theorem dX10_readNode_69 : decode cX10_readNode 69 = .ok (.iadd, 1) := by decide +kernel
theorem dX10_readNode_70 : decode cX10_readNode 70 = .ok (.putfield 90, 3) := by decide +kernel
theorem dX10_readNode_73 : decode cX10_readNode 73 = .ok (.aload_n 1, 1) := by decide +kernel
theorem dX10_readNode_74 : decode cX10_readNode 74 = .ok (.invokevirtual 60, 3) := by decide +kernel
theorem dX10_readNode_77 : decode cX10_readNode 77 = .ok (.iconst 1, 1) := by decide +kernel
theorem dX10_readNode_78 : decode cX10_readNode 78 = .ok (.ireturn, 1) := by decide +kernel
theorem dX10_readEnds_0 : decode cX10_readEnds 0 = .ok (.aload_n 0, 1) := by decide +kernel
theorem dX10_readEnds_1 : decode cX10_readEnds 1 = .ok (.aload_n 1, 1) := by decide +kernel
theorem dX10_readEnds_2 : decode cX10_readEnds 2 = .ok (.invokevirtual 93, 3) := by decide +kernel
theorem dX10_readEnds_5 : decode cX10_readEnds 5 = .ok (.ifCond .ne 5, 3) := by decide +kernel
theorem dX10_readEnds_8 : decode cX10_readEnds 8 = .ok (.iconst 0, 1) := by decide +kernel
theorem dX10_readEnds_9 : decode cX10_readEnds 9 = .ok (.ireturn, 1) := by decide +kernel
theorem dX10_readEnds_10 : decode cX10_readEnds 10 = .ok (.aload_n 0, 1) := by decide +kernel
theorem dX10_readEnds_11 : decode cX10_readEnds 11 = .ok (.getfield 11, 3) := by decide +kernel
theorem dX10_readEnds_14 : decode cX10_readEnds 14 = .ok (.aload_n 0, 1) := by decide +kernel
theorem dX10_readEnds_15 : decode cX10_readEnds 15 = .ok (.getfield 33, 3) := by decide +kernel
theorem dX10_readEnds_18 : decode cX10_readEnds 18 = .ok (.aload_n 0, 1) := by decide +kernel
theorem dX10_readEnds_19 : decode cX10_readEnds 19 = .ok (.getfield 90, 3) := by decide +kernel
theorem dX10_readEnds_22 : decode cX10_readEnds 22 = .ok (.iastore, 1) := by decide +kernel
theorem dX10_readEnds_23 : decode cX10_readEnds 23 = .ok (.aload_n 0, 1) := by decide +kernel
theorem dX10_readEnds_24 : decode cX10_readEnds 24 = .ok (.aload_n 1, 1) := by decide +kernel
theorem dX10_readEnds_25 : decode cX10_readEnds 25 = .ok (.invokevirtual 93, 3) := by decide +kernel
theorem dX10_readEnds_28 : decode cX10_readEnds 28 = .ok (.ifCond .ne 5, 3) := by decide +kernel
theorem dX10_readEnds_31 : decode cX10_readEnds 31 = .ok (.iconst 0, 1) := by decide +kernel
theorem dX10_readEnds_32 : decode cX10_readEnds 32 = .ok (.ireturn, 1) := by decide +kernel
theorem dX10_readEnds_33 : decode cX10_readEnds 33 = .ok (.aload_n 0, 1) := by decide +kernel
theorem dX10_readEnds_34 : decode cX10_readEnds 34 = .ok (.getfield 15, 3) := by decide +kernel
theorem dX10_readEnds_37 : decode cX10_readEnds 37 = .ok (.aload_n 0, 1) := by decide +kernel
theorem dX10_readEnds_38 : decode cX10_readEnds 38 = .ok (.getfield 33, 3) := by decide +kernel
theorem dX10_readEnds_41 : decode cX10_readEnds 41 = .ok (.aload_n 0, 1) := by decide +kernel
theorem dX10_readEnds_42 : decode cX10_readEnds 42 = .ok (.getfield 90, 3) := by decide +kernel
theorem dX10_readEnds_45 : decode cX10_readEnds 45 = .ok (.iastore, 1) := by decide +kernel
theorem dX10_readEnds_46 : decode cX10_readEnds 46 = .ok (.iconst 1, 1) := by decide +kernel
theorem dX10_readEnds_47 : decode cX10_readEnds 47 = .ok (.ireturn, 1) := by decide +kernel
theorem dX10_readAfters_0 : decode cX10_readAfters 0 = .ok (.aload_n 0, 1) := by decide +kernel
theorem dX10_readAfters_1 : decode cX10_readAfters 1 = .ok (.getfield 18, 3) := by decide +kernel
theorem dX10_readAfters_4 : decode cX10_readAfters 4 = .ok (.aload_n 0, 1) := by decide +kernel
theorem dX10_readAfters_5 : decode cX10_readAfters 5 = .ok (.getfield 33, 3) := by decide +kernel
theorem dX10_readAfters_8 : decode cX10_readAfters 8 = .ok (.iconst 0, 1) := by decide +kernel
theorem dX10_readAfters_9 : decode cX10_readAfters 9 = .ok (.iastore, 1) := by decide +kernel
theorem dX10_readAfters_10 : decode cX10_readAfters 10 = .ok (.sipush 540, 3) := by decide +kernel
theorem dX10_readAfters_13 : decode cX10_readAfters 13 = .ok (.istore_n 2, 1) := by decide +kernel
theorem dX10_readAfters_14 : decode cX10_readAfters 14 = .ok (.iload_n 2, 1) := by decide +kernel
theorem dX10_readAfters_15 : decode cX10_readAfters 15 = .ok (.ifCond .le 74, 3) := by decide +kernel
theorem dX10_readAfters_18 : decode cX10_readAfters 18 = .ok (.aload_n 1, 1) := by decide +kernel
theorem dX10_readAfters_19 : decode cX10_readAfters 19 = .ok (.getfield 53, 3) := by decide +kernel
theorem dX10_readAfters_22 : decode cX10_readAfters 22 = .ok (.bipush 21, 2) := by decide +kernel
theorem dX10_readAfters_24 : decode cX10_readAfters 24 = .ok (.if_icmp .ne 65, 3) := by decide +kernel
theorem dX10_readAfters_27 : decode cX10_readAfters 27 = .ok (.aload_n 1, 1) := by decide +kernel
theorem dX10_readAfters_28 : decode cX10_readAfters 28 = .ok (.invokevirtual 60, 3) := by decide +kernel
theorem dX10_readAfters_31 : decode cX10_readAfters 31 = .ok (.aload_n 1, 1) := by decide +kernel
theorem dX10_readAfters_32 : decode cX10_readAfters 32 = .ok (.invokevirtual 63, 3) := by decide +kernel
theorem dX10_readAfters_35 : decode cX10_readAfters 35 = .ok (.ifCond .ne 9, 3) := by decide +kernel
theorem dX10_readAfters_38 : decode cX10_readAfters 38 = .ok (.aload_n 1, 1) := by decide +kernel
theorem dX10_readAfters_39 : decode cX10_readAfters 39 = .ok (.iconst 1, 1) := by decide +kernel
theorem dX10_readAfters_40 : decode cX10_readAfters 40 = .ok (.invokevirtual 56, 3) := by decide +kernel
theorem dX10_readAfters_43 : decode cX10_readAfters 43 = .ok (.ireturn, 1) := by decide +kernel
theorem dX10_readAfters_44 : decode cX10_readAfters 44 = .ok (.aload_n 0, 1) := by decide +kernel
theorem dX10_readAfters_45 : decode cX10_readAfters 45 = .ok (.aload_n 1, 1) := by decide +kernel
theorem dX10_readAfters_46 : decode cX10_readAfters 46 = .ok (.getfield 67, 3) := by decide +kernel
theorem dX10_readAfters_49 : decode cX10_readAfters 49 = .ok (.invokevirtual 70, 3) := by decide +kernel
theorem dX10_readAfters_52 : decode cX10_readAfters 52 = .ok (.istore_n 3, 1) := by decide +kernel
theorem dX10_readAfters_53 : decode cX10_readAfters 53 = .ok (.iload_n 3, 1) := by decide +kernel
theorem dX10_readAfters_54 : decode cX10_readAfters 54 = .ok (.iconst (-1), 1) := by decide +kernel
theorem dX10_readAfters_55 : decode cX10_readAfters 55 = .ok (.if_icmp .ne 9, 3) := by decide +kernel
theorem dX10_readAfters_58 : decode cX10_readAfters 58 = .ok (.aload_n 1, 1) := by decide +kernel
theorem dX10_readAfters_59 : decode cX10_readAfters 59 = .ok (.iconst 3, 1) := by decide +kernel
theorem dX10_readAfters_60 : decode cX10_readAfters 60 = .ok (.invokevirtual 56, 3) := by decide +kernel
theorem dX10_readAfters_63 : decode cX10_readAfters 63 = .ok (.ireturn, 1) := by decide +kernel
theorem dX10_readAfters_64 : decode cX10_readAfters 64 = .ok (.aload_n 0, 1) := by decide +kernel
theorem dX10_readAfters_65 : decode cX10_readAfters 65 = .ok (.getfield 18, 3) := by decide +kernel
theorem dX10_readAfters_68 : decode cX10_readAfters 68 = .ok (.aload_n 0, 1) := by decide +kernel
theorem dX10_readAfters_69 : decode cX10_readAfters 69 = .ok (.getfield 33, 3) := by decide +kernel
theorem dX10_readAfters_72 : decode cX10_readAfters 72 = .ok (.dup2, 1) := by decide +kernel
theorem dX10_readAfters_73 : decode cX10_readAfters 73 = .ok (.iaload, 1) := by decide +kernel
theorem dX10_readAfters_74 : decode cX10_readAfters 74 = .ok (.iconst 1, 1) := by decide +kernel
theorem dX10_readAfters_75 : decode cX10_readAfters 75 = .ok (.iload_n 3, 1) := by decide +kernel
theorem dX10_readAfters_76 : decode cX10_readAfters 76 = .ok (.ishl, 1) := by decide +kernel
theorem dX10_readAfters_77 : decode cX10_readAfters 77 = .ok (.ior, 1) := by decide +kernel
theorem dX10_readAfters_78 : decode cX10_readAfters 78 = .ok (.iastore, 1) := by decide +kernel
theorem dX10_readAfters_79 : decode cX10_readAfters 79 = .ok (.aload_n 1, 1) := by decide +kernel
theorem dX10_readAfters_80 : decode cX10_readAfters 80 = .ok (.invokevirtual 60, 3) := by decide +kernel
theorem dX10_readAfters_83 : decode cX10_readAfters 83 = .ok (.iinc 2 (-1), 3) := by decide +kernel
theorem dX10_readAfters_86 : decode cX10_readAfters 86 = .ok (.goto (-72), 3) := by decide +kernel
theorem dX10_readAfters_89 : decode cX10_readAfters 89 = .ok (.iconst 1, 1) := by decide +kernel
theorem dX10_readAfters_90 : decode cX10_readAfters 90 = .ok (.ireturn, 1) := by decide +kernel
theorem dX10_readNears_0 : decode cX10_readNears 0 = .ok (.bipush 64, 2) := by decide +kernel
theorem dX10_readNears_2 : decode cX10_readNears 2 = .ok (.aload_n 0, 1) := by decide +kernel
theorem dX10_readNears_3 : decode cX10_readNears 3 = .ok (.getfield 37, 3) := by decide +kernel
theorem dX10_readNears_6 : decode cX10_readNears 6 = .ok (.isub, 1) := by decide +kernel
theorem dX10_readNears_7 : decode cX10_readNears 7 = .ok (.istore_n 2, 1) := by decide +kernel
theorem dX10_readNears_8 : decode cX10_readNears 8 = .ok (.iload_n 2, 1) := by decide +kernel
theorem dX10_readNears_9 : decode cX10_readNears 9 = .ok (.ifCond .le 91, 3) := by decide +kernel
theorem dX10_readNears_12 : decode cX10_readNears 12 = .ok (.aload_n 1, 1) := by decide +kernel
theorem dX10_readNears_13 : decode cX10_readNears 13 = .ok (.getfield 53, 3) := by decide +kernel
theorem dX10_readNears_16 : decode cX10_readNears 16 = .ok (.bipush 22, 2) := by decide +kernel
theorem dX10_readNears_18 : decode cX10_readNears 18 = .ok (.if_icmp .ne 82, 3) := by decide +kernel
theorem dX10_readNears_21 : decode cX10_readNears 21 = .ok (.aload_n 1, 1) := by decide +kernel
theorem dX10_readNears_22 : decode cX10_readNears 22 = .ok (.invokevirtual 60, 3) := by decide +kernel
theorem dX10_readNears_25 : decode cX10_readNears 25 = .ok (.aload_n 0, 1) := by decide +kernel
theorem dX10_readNears_26 : decode cX10_readNears 26 = .ok (.aload_n 1, 1) := by decide +kernel
theorem dX10_readNears_27 : decode cX10_readNears 27 = .ok (.invokevirtual 93, 3) := by decide +kernel
theorem dX10_readNears_30 : decode cX10_readNears 30 = .ok (.ifCond .ne 5, 3) := by decide +kernel
theorem dX10_readNears_33 : decode cX10_readNears 33 = .ok (.iconst 0, 1) := by decide +kernel
theorem dX10_readNears_34 : decode cX10_readNears 34 = .ok (.ireturn, 1) := by decide +kernel
theorem dX10_readNears_35 : decode cX10_readNears 35 = .ok (.aload_n 0, 1) := by decide +kernel
theorem dX10_readNears_36 : decode cX10_readNears 36 = .ok (.getfield 24, 3) := by decide +kernel
theorem dX10_readNears_39 : decode cX10_readNears 39 = .ok (.aload_n 0, 1) := by decide +kernel
theorem dX10_readNears_40 : decode cX10_readNears 40 = .ok (.getfield 37, 3) := by decide +kernel
theorem dX10_readNears_43 : decode cX10_readNears 43 = .ok (.aload_n 0, 1) := by decide +kernel
theorem dX10_readNears_44 : decode cX10_readNears 44 = .ok (.getfield 90, 3) := by decide +kernel
theorem dX10_readNears_47 : decode cX10_readNears 47 = .ok (.iastore, 1) := by decide +kernel
theorem dX10_readNears_48 : decode cX10_readNears 48 = .ok (.aload_n 0, 1) := by decide +kernel
theorem dX10_readNears_49 : decode cX10_readNears 49 = .ok (.aload_n 1, 1) := by decide +kernel
theorem dX10_readNears_50 : decode cX10_readNears 50 = .ok (.invokevirtual 93, 3) := by decide +kernel
theorem dX10_readNears_53 : decode cX10_readNears 53 = .ok (.ifCond .ne 5, 3) := by decide +kernel
theorem dX10_readNears_56 : decode cX10_readNears 56 = .ok (.iconst 0, 1) := by decide +kernel
theorem dX10_readNears_57 : decode cX10_readNears 57 = .ok (.ireturn, 1) := by decide +kernel
theorem dX10_readNears_58 : decode cX10_readNears 58 = .ok (.aload_n 0, 1) := by decide +kernel
theorem dX10_readNears_59 : decode cX10_readNears 59 = .ok (.getfield 27, 3) := by decide +kernel
theorem dX10_readNears_62 : decode cX10_readNears 62 = .ok (.aload_n 0, 1) := by decide +kernel
theorem dX10_readNears_63 : decode cX10_readNears 63 = .ok (.getfield 37, 3) := by decide +kernel
theorem dX10_readNears_66 : decode cX10_readNears 66 = .ok (.aload_n 0, 1) := by decide +kernel
theorem dX10_readNears_67 : decode cX10_readNears 67 = .ok (.getfield 90, 3) := by decide +kernel
theorem dX10_readNears_70 : decode cX10_readNears 70 = .ok (.iastore, 1) := by decide +kernel
theorem dX10_readNears_71 : decode cX10_readNears 71 = .ok (.aload_n 0, 1) := by decide +kernel
theorem dX10_readNears_72 : decode cX10_readNears 72 = .ok (.getfield 21, 3) := by decide +kernel
theorem dX10_readNears_75 : decode cX10_readNears 75 = .ok (.aload_n 0, 1) := by decide +kernel
theorem dX10_readNears_76 : decode cX10_readNears 76 = .ok (.getfield 37, 3) := by decide +kernel
theorem dX10_readNears_79 : decode cX10_readNears 79 = .ok (.aload_n 0, 1) := by decide +kernel
theorem dX10_readNears_80 : decode cX10_readNears 80 = .ok (.getfield 33, 3) := by decide +kernel
theorem dX10_readNears_83 : decode cX10_readNears 83 = .ok (.iastore, 1) := by decide +kernel
theorem dX10_readNears_84 : decode cX10_readNears 84 = .ok (.aload_n 0, 1) := by decide +kernel
theorem dX10_readNears_85 : decode cX10_readNears 85 = .ok (.dup, 1) := by decide +kernel
theorem dX10_readNears_86 : decode cX10_readNears 86 = .ok (.getfield 37, 3) := by decide +kernel
theorem dX10_readNears_89 : decode cX10_readNears 89 = .ok (.iconst 1, 1) := by decide +kernel
theorem dX10_readNears_90 : decode cX10_readNears 90 = .ok (.iadd, 1) := by decide +kernel
theorem dX10_readNears_91 : decode cX10_readNears 91 = .ok (.putfield 37, 3) := by decide +kernel
theorem dX10_readNears_94 : decode cX10_readNears 94 = .ok (.iinc 2 (-1), 3) := by decide +kernel
theorem dX10_readNears_97 : decode cX10_readNears 97 = .ok (.goto (-89), 3) := by decide +kernel
theorem dX10_readNears_100 : decode cX10_readNears 100 = .ok (.iconst 1, 1) := by decide +kernel
theorem dX10_readNears_101 : decode cX10_readNears 101 = .ok (.ireturn, 1) := by decide +kernel
