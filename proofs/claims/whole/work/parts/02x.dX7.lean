theorem dX7_init_0 : decode cX7_init 0 = .ok (.aload_n 0, 1) := by decide +kernel
theorem dX7_init_1 : decode cX7_init 1 = .ok (.invokespecial 3, 3) := by decide +kernel
theorem dX7_init_4 : decode cX7_init 4 = .ok (.aload_n 0, 1) := by decide +kernel
theorem dX7_init_5 : decode cX7_init 5 = .ok (.sipush 540, 3) := by decide +kernel
theorem dX7_init_8 : decode cX7_init 8 = .ok (.newarray .byte, 2) := by decide +kernel
theorem dX7_init_10 : decode cX7_init 10 = .ok (.putfield 11, 3) := by decide +kernel
theorem dX7_init_13 : decode cX7_init 13 = .ok (.aload_n 0, 1) := by decide +kernel
theorem dX7_init_14 : decode cX7_init 14 = .ok (.iconst (-1), 1) := by decide +kernel
theorem dX7_init_15 : decode cX7_init 15 = .ok (.putfield 15, 3) := by decide +kernel
theorem dX7_init_18 : decode cX7_init 18 = .ok (.return_, 1) := by decide +kernel
theorem dX7_add_0 : decode cX7_add 0 = .ok (.bipush 24, 2) := by decide +kernel
theorem dX7_add_2 : decode cX7_add 2 = .ok (.istore_n 2, 1) := by decide +kernel
theorem dX7_add_3 : decode cX7_add 3 = .ok (.iload_n 2, 1) := by decide +kernel
theorem dX7_add_4 : decode cX7_add 4 = .ok (.ifCond .lt 42, 3) := by decide +kernel
theorem dX7_add_7 : decode cX7_add 7 = .ok (.aload_n 0, 1) := by decide +kernel
theorem dX7_add_8 : decode cX7_add 8 = .ok (.getfield 19, 3) := by decide +kernel
theorem dX7_add_11 : decode cX7_add 11 = .ok (.sipush 540, 3) := by decide +kernel
theorem dX7_add_14 : decode cX7_add 14 = .ok (.if_icmp .ge 32, 3) := by decide +kernel
theorem dX7_add_17 : decode cX7_add 17 = .ok (.aload_n 0, 1) := by decide +kernel
theorem dX7_add_18 : decode cX7_add 18 = .ok (.getfield 11, 3) := by decide +kernel
theorem dX7_add_21 : decode cX7_add 21 = .ok (.aload_n 0, 1) := by decide +kernel
theorem dX7_add_22 : decode cX7_add 22 = .ok (.getfield 19, 3) := by decide +kernel
theorem dX7_add_25 : decode cX7_add 25 = .ok (.iload_n 1, 1) := by decide +kernel
theorem dX7_add_26 : decode cX7_add 26 = .ok (.iload_n 2, 1) := by decide +kernel
theorem dX7_add_27 : decode cX7_add 27 = .ok (.ishr, 1) := by decide +kernel
theorem dX7_add_28 : decode cX7_add 28 = .ok (.i2b, 1) := by decide +kernel
theorem dX7_add_29 : decode cX7_add 29 = .ok (.bastore, 1) := by decide +kernel
theorem dX7_add_30 : decode cX7_add 30 = .ok (.aload_n 0, 1) := by decide +kernel
theorem dX7_add_31 : decode cX7_add 31 = .ok (.dup, 1) := by decide +kernel
theorem dX7_add_32 : decode cX7_add 32 = .ok (.getfield 19, 3) := by decide +kernel
theorem dX7_add_35 : decode cX7_add 35 = .ok (.iconst 1, 1) := by decide +kernel
theorem dX7_add_36 : decode cX7_add 36 = .ok (.iadd, 1) := by decide +kernel
theorem dX7_add_37 : decode cX7_add 37 = .ok (.putfield 19, 3) := by decide +kernel
theorem dX7_add_40 : decode cX7_add 40 = .ok (.iinc 2 (-8), 3) := by decide +kernel
theorem dX7_add_43 : decode cX7_add 43 = .ok (.goto (-40), 3) := by decide +kernel
theorem dX7_add_46 : decode cX7_add 46 = .ok (.return_, 1) := by decide +kernel
theorem dX7_at_0 : decode cX7_at 0 = .ok (.iload_n 1, 1) := by decide +kernel
theorem dX7_at_1 : decode cX7_at 1 = .ok (.ifCond .lt 23, 3) := by decide +kernel
theorem dX7_at_4 : decode cX7_at 4 = .ok (.iload_n 1, 1) := by decide +kernel
theorem dX7_at_5 : decode cX7_at 5 = .ok (.sipush 540, 3) := by decide +kernel
theorem dX7_at_8 : decode cX7_at 8 = .ok (.if_icmp .ge 16, 3) := by decide +kernel
theorem dX7_at_11 : decode cX7_at 11 = .ok (.aload_n 0, 1) := by decide +kernel
theorem dX7_at_12 : decode cX7_at 12 = .ok (.getfield 11, 3) := by decide +kernel
theorem dX7_at_15 : decode cX7_at 15 = .ok (.iload_n 1, 1) := by decide +kernel
theorem dX7_at_16 : decode cX7_at 16 = .ok (.baload, 1) := by decide +kernel
theorem dX7_at_17 : decode cX7_at 17 = .ok (.sipush 255, 3) := by decide +kernel
theorem dX7_at_20 : decode cX7_at 20 = .ok (.iand, 1) := by decide +kernel
theorem dX7_at_21 : decode cX7_at 21 = .ok (.goto 4, 3) := by decide +kernel
theorem dX7_at_24 : decode cX7_at 24 = .ok (.iconst (-1), 1) := by decide +kernel
theorem dX7_at_25 : decode cX7_at 25 = .ok (.ireturn, 1) := by decide +kernel
theorem dX7_begin_0 : decode cX7_begin 0 = .ok (.aload_n 0, 1) := by decide +kernel
theorem dX7_begin_1 : decode cX7_begin 1 = .ok (.iload_n 1, 1) := by decide +kernel
theorem dX7_begin_2 : decode cX7_begin 2 = .ok (.putfield 22, 3) := by decide +kernel
theorem dX7_begin_5 : decode cX7_begin 5 = .ok (.aload_n 0, 1) := by decide +kernel
theorem dX7_begin_6 : decode cX7_begin 6 = .ok (.iconst 0, 1) := by decide +kernel
theorem dX7_begin_7 : decode cX7_begin 7 = .ok (.putfield 25, 3) := by decide +kernel
theorem dX7_begin_10 : decode cX7_begin 10 = .ok (.aload_n 0, 1) := by decide +kernel
theorem dX7_begin_11 : decode cX7_begin 11 = .ok (.iconst 0, 1) := by decide +kernel
theorem dX7_begin_12 : decode cX7_begin 12 = .ok (.putfield 28, 3) := by decide +kernel
theorem dX7_begin_15 : decode cX7_begin 15 = .ok (.aload_n 0, 1) := by decide +kernel
theorem dX7_begin_16 : decode cX7_begin 16 = .ok (.iconst 0, 1) := by decide +kernel
theorem dX7_begin_17 : decode cX7_begin 17 = .ok (.putfield 31, 3) := by decide +kernel
theorem dX7_begin_20 : decode cX7_begin 20 = .ok (.aload_n 0, 1) := by decide +kernel
theorem dX7_begin_21 : decode cX7_begin 21 = .ok (.invokevirtual 34, 3) := by decide +kernel
theorem dX7_begin_24 : decode cX7_begin 24 = .ok (.return_, 1) := by decide +kernel
theorem dX7_refuse_0 : decode cX7_refuse 0 = .ok (.aload_n 0, 1) := by decide +kernel
theorem dX7_refuse_1 : decode cX7_refuse 1 = .ok (.iload_n 1, 1) := by decide +kernel
theorem dX7_refuse_2 : decode cX7_refuse 2 = .ok (.putfield 28, 3) := by decide +kernel
theorem dX7_refuse_5 : decode cX7_refuse 5 = .ok (.aload_n 0, 1) := by decide +kernel
theorem dX7_refuse_6 : decode cX7_refuse 6 = .ok (.aload_n 0, 1) := by decide +kernel
theorem dX7_refuse_7 : decode cX7_refuse 7 = .ok (.getfield 37, 3) := by decide +kernel
theorem dX7_refuse_10 : decode cX7_refuse 10 = .ok (.putfield 31, 3) := by decide +kernel
theorem dX7_refuse_13 : decode cX7_refuse 13 = .ok (.iconst 0, 1) := by decide +kernel
theorem dX7_refuse_14 : decode cX7_refuse 14 = .ok (.ireturn, 1) := by decide +kernel
theorem dX7_isName_0 : decode cX7_isName 0 = .ok (.aload_n 0, 1) := by decide +kernel
theorem dX7_isName_1 : decode cX7_isName 1 = .ok (.getfield 40, 3) := by decide +kernel
theorem dX7_isName_4 : decode cX7_isName 4 = .ok (.iconst 2, 1) := by decide +kernel
theorem dX7_isName_5 : decode cX7_isName 5 = .ok (.if_icmp .ne 15, 3) := by decide +kernel
theorem dX7_isName_8 : decode cX7_isName 8 = .ok (.aload_n 0, 1) := by decide +kernel
theorem dX7_isName_9 : decode cX7_isName 9 = .ok (.getfield 15, 3) := by decide +kernel
theorem dX7_isName_12 : decode cX7_isName 12 = .ok (.iconst (-1), 1) := by decide +kernel
theorem dX7_isName_13 : decode cX7_isName 13 = .ok (.if_icmp .ne 7, 3) := by decide +kernel
theorem dX7_isName_16 : decode cX7_isName 16 = .ok (.iconst 1, 1) := by decide +kernel
theorem dX7_isName_17 : decode cX7_isName 17 = .ok (.goto 4, 3) := by decide +kernel
theorem dX7_isName_20 : decode cX7_isName 20 = .ok (.iconst 0, 1) := by decide +kernel
theorem dX7_isName_21 : decode cX7_isName 21 = .ok (.ireturn, 1) := by decide +kernel
theorem dX7_takeSign_0 : decode cX7_takeSign 0 = .ok (.aload_n 0, 1) := by decide +kernel
theorem dX7_takeSign_1 : decode cX7_takeSign 1 = .ok (.getfield 40, 3) := by decide +kernel
theorem dX7_takeSign_4 : decode cX7_takeSign 4 = .ok (.iload_n 1, 1) := by decide +kernel
theorem dX7_takeSign_5 : decode cX7_takeSign 5 = .ok (.if_icmp .eq 9, 3) := by decide +kernel
theorem dX7_takeSign_8 : decode cX7_takeSign 8 = .ok (.aload_n 0, 1) := by decide +kernel
theorem dX7_takeSign_9 : decode cX7_takeSign 9 = .ok (.iconst 1, 1) := by decide +kernel
theorem dX7_takeSign_10 : decode cX7_takeSign 10 = .ok (.invokevirtual 43, 3) := by decide +kernel
theorem dX7_takeSign_13 : decode cX7_takeSign 13 = .ok (.ireturn, 1) := by decide +kernel
theorem dX7_takeSign_14 : decode cX7_takeSign 14 = .ok (.aload_n 0, 1) := by decide +kernel
theorem dX7_takeSign_15 : decode cX7_takeSign 15 = .ok (.invokevirtual 34, 3) := by decide +kernel
theorem dX7_takeSign_18 : decode cX7_takeSign 18 = .ok (.iconst 1, 1) := by decide +kernel
theorem dX7_takeSign_19 : decode cX7_takeSign 19 = .ok (.ireturn, 1) := by decide +kernel
theorem dX7_isNumber_0 : decode cX7_isNumber 0 = .ok (.aload_n 0, 1) := by decide +kernel
theorem dX7_isNumber_1 : decode cX7_isNumber 1 = .ok (.getfield 40, 3) := by decide +kernel
theorem dX7_isNumber_4 : decode cX7_isNumber 4 = .ok (.iconst 3, 1) := by decide +kernel
theorem dX7_isNumber_5 : decode cX7_isNumber 5 = .ok (.if_icmp .eq 9, 3) := by decide +kernel
theorem dX7_isNumber_8 : decode cX7_isNumber 8 = .ok (.aload_n 0, 1) := by decide +kernel
theorem dX7_isNumber_9 : decode cX7_isNumber 9 = .ok (.iconst 1, 1) := by decide +kernel
theorem dX7_isNumber_10 : decode cX7_isNumber 10 = .ok (.invokevirtual 43, 3) := by decide +kernel
theorem dX7_isNumber_13 : decode cX7_isNumber 13 = .ok (.ireturn, 1) := by decide +kernel
theorem dX7_isNumber_14 : decode cX7_isNumber 14 = .ok (.aload_n 0, 1) := by decide +kernel
theorem dX7_isNumber_15 : decode cX7_isNumber 15 = .ok (.getfield 47, 3) := by decide +kernel
theorem dX7_isNumber_18 : decode cX7_isNumber 18 = .ok (.iload_n 1, 1) := by decide +kernel
theorem dX7_isNumber_19 : decode cX7_isNumber 19 = .ok (.if_icmp .lt 11, 3) := by decide +kernel
theorem dX7_isNumber_22 : decode cX7_isNumber 22 = .ok (.aload_n 0, 1) := by decide +kernel
theorem dX7_isNumber_23 : decode cX7_isNumber 23 = .ok (.getfield 47, 3) := by decide +kernel
theorem dX7_isNumber_26 : decode cX7_isNumber 26 = .ok (.iload_n 2, 1) := by decide +kernel
theorem dX7_isNumber_27 : decode cX7_isNumber 27 = .ok (.if_icmp .le 11, 3) := by decide +kernel
theorem dX7_isNumber_30 : decode cX7_isNumber 30 = .ok (.aload_n 0, 1) := by decide +kernel
theorem dX7_isNumber_31 : decode cX7_isNumber 31 = .ok (.iconst 2, 1) := by decide +kernel
theorem dX7_isNumber_32 : decode cX7_isNumber 32 = .ok (.invokevirtual 43, 3) := by decide +kernel
theorem dX7_isNumber_35 : decode cX7_isNumber 35 = .ok (.ifCond .eq 7, 3) := by decide +kernel
theorem dX7_isNumber_38 : decode cX7_isNumber 38 = .ok (.iconst 1, 1) := by decide +kernel
theorem dX7_isNumber_39 : decode cX7_isNumber 39 = .ok (.goto 4, 3) := by decide +kernel
theorem dX7_isNumber_42 : decode cX7_isNumber 42 = .ok (.iconst 0, 1) := by decide +kernel
theorem dX7_isNumber_43 : decode cX7_isNumber 43 = .ok (.ireturn, 1) := by decide +kernel
theorem dX7_step_0 : decode cX7_step 0 = .ok (.aload_n 0, 1) := by decide +kernel
theorem dX7_step_1 : decode cX7_step 1 = .ok (.getfield 25, 3) := by decide +kernel
theorem dX7_step_4 : decode cX7_step 4 = .ok (.aload_n 0, 1) := by decide +kernel
theorem dX7_step_5 : decode cX7_step 5 = .ok (.getfield 19, 3) := by decide +kernel
theorem dX7_step_8 : decode cX7_step 8 = .ok (.if_icmp .ge 44, 3) := by decide +kernel
theorem dX7_step_11 : decode cX7_step 11 = .ok (.aload_n 0, 1) := by decide +kernel
theorem dX7_step_12 : decode cX7_step 12 = .ok (.getfield 11, 3) := by decide +kernel
theorem dX7_step_15 : decode cX7_step 15 = .ok (.aload_n 0, 1) := by decide +kernel
theorem dX7_step_16 : decode cX7_step 16 = .ok (.getfield 25, 3) := by decide +kernel
theorem dX7_step_19 : decode cX7_step 19 = .ok (.baload, 1) := by decide +kernel
theorem dX7_step_20 : decode cX7_step 20 = .ok (.bipush 32, 2) := by decide +kernel
theorem dX7_step_22 : decode cX7_step 22 = .ok (.if_icmp .eq 17, 3) := by decide +kernel
theorem dX7_step_25 : decode cX7_step 25 = .ok (.aload_n 0, 1) := by decide +kernel
theorem dX7_step_26 : decode cX7_step 26 = .ok (.getfield 11, 3) := by decide +kernel
theorem dX7_step_29 : decode cX7_step 29 = .ok (.aload_n 0, 1) := by decide +kernel
theorem dX7_step_30 : decode cX7_step 30 = .ok (.getfield 25, 3) := by decide +kernel
theorem dX7_step_33 : decode cX7_step 33 = .ok (.baload, 1) := by decide +kernel
theorem dX7_step_34 : decode cX7_step 34 = .ok (.bipush 10, 2) := by decide +kernel
theorem dX7_step_36 : decode cX7_step 36 = .ok (.if_icmp .ne 16, 3) := by decide +kernel
theorem dX7_step_39 : decode cX7_step 39 = .ok (.aload_n 0, 1) := by decide +kernel
theorem dX7_step_40 : decode cX7_step 40 = .ok (.dup, 1) := by decide +kernel
theorem dX7_step_41 : decode cX7_step 41 = .ok (.getfield 25, 3) := by decide +kernel
theorem dX7_step_44 : decode cX7_step 44 = .ok (.iconst 1, 1) := by decide +kernel
theorem dX7_step_45 : decode cX7_step 45 = .ok (.iadd, 1) := by decide +kernel
theorem dX7_step_46 : decode cX7_step 46 = .ok (.putfield 25, 3) := by decide +kernel
theorem dX7_step_49 : decode cX7_step 49 = .ok (.goto (-49), 3) := by decide +kernel
theorem dX7_step_52 : decode cX7_step 52 = .ok (.aload_n 0, 1) := by decide +kernel
theorem dX7_step_53 : decode cX7_step 53 = .ok (.iconst (-1), 1) := by decide +kernel
theorem dX7_step_54 : decode cX7_step 54 = .ok (.putfield 15, 3) := by decide +kernel
theorem dX7_step_57 : decode cX7_step 57 = .ok (.aload_n 0, 1) := by decide +kernel
theorem dX7_step_58 : decode cX7_step 58 = .ok (.iconst 0, 1) := by decide +kernel
theorem dX7_step_59 : decode cX7_step 59 = .ok (.putfield 47, 3) := by decide +kernel
theorem dX7_step_62 : decode cX7_step 62 = .ok (.aload_n 0, 1) := by decide +kernel
theorem dX7_step_63 : decode cX7_step 63 = .ok (.getfield 19, 3) := by decide +kernel
theorem dX7_step_66 : decode cX7_step 66 = .ok (.aload_n 0, 1) := by decide +kernel
theorem dX7_step_67 : decode cX7_step 67 = .ok (.getfield 22, 3) := by decide +kernel
theorem dX7_step_70 : decode cX7_step 70 = .ok (.if_icmp .le 30, 3) := by decide +kernel
theorem dX7_step_73 : decode cX7_step 73 = .ok (.aload_n 0, 1) := by decide +kernel
theorem dX7_step_74 : decode cX7_step 74 = .ok (.getfield 25, 3) := by decide +kernel
theorem dX7_step_77 : decode cX7_step 77 = .ok (.aload_n 0, 1) := by decide +kernel
theorem dX7_step_78 : decode cX7_step 78 = .ok (.getfield 22, 3) := by decide +kernel
theorem dX7_step_81 : decode cX7_step 81 = .ok (.if_icmp .lt 19, 3) := by decide +kernel
theorem dX7_step_84 : decode cX7_step 84 = .ok (.aload_n 0, 1) := by decide +kernel
theorem dX7_step_85 : decode cX7_step 85 = .ok (.iconst 1, 1) := by decide +kernel
theorem dX7_step_86 : decode cX7_step 86 = .ok (.putfield 40, 3) := by decide +kernel
theorem dX7_step_89 : decode cX7_step 89 = .ok (.aload_n 0, 1) := by decide +kernel
theorem dX7_step_90 : decode cX7_step 90 = .ok (.aload_n 0, 1) := by decide +kernel
theorem dX7_step_91 : decode cX7_step 91 = .ok (.getfield 22, 3) := by decide +kernel
theorem dX7_step_94 : decode cX7_step 94 = .ok (.putfield 37, 3) := by decide +kernel
theorem dX7_step_97 : decode cX7_step 97 = .ok (.goto 65, 3) := by decide +kernel
theorem dX7_step_100 : decode cX7_step 100 = .ok (.aload_n 0, 1) := by decide +kernel
theorem dX7_step_101 : decode cX7_step 101 = .ok (.getfield 25, 3) := by decide +kernel
theorem dX7_step_104 : decode cX7_step 104 = .ok (.aload_n 0, 1) := by decide +kernel
theorem dX7_step_105 : decode cX7_step 105 = .ok (.getfield 19, 3) := by decide +kernel
theorem dX7_step_108 : decode cX7_step 108 = .ok (.if_icmp .lt 19, 3) := by decide +kernel
theorem dX7_step_111 : decode cX7_step 111 = .ok (.aload_n 0, 1) := by decide +kernel
theorem dX7_step_112 : decode cX7_step 112 = .ok (.iconst 0, 1) := by decide +kernel
theorem dX7_step_113 : decode cX7_step 113 = .ok (.putfield 40, 3) := by decide +kernel
theorem dX7_step_116 : decode cX7_step 116 = .ok (.aload_n 0, 1) := by decide +kernel
theorem dX7_step_117 : decode cX7_step 117 = .ok (.aload_n 0, 1) := by decide +kernel
theorem dX7_step_118 : decode cX7_step 118 = .ok (.getfield 19, 3) := by decide +kernel
theorem dX7_step_121 : decode cX7_step 121 = .ok (.putfield 37, 3) := by decide +kernel
theorem dX7_step_124 : decode cX7_step 124 = .ok (.goto 38, 3) := by decide +kernel
theorem dX7_step_127 : decode cX7_step 127 = .ok (.aload_n 0, 1) := by decide +kernel
theorem dX7_step_128 : decode cX7_step 128 = .ok (.aload_n 0, 1) := by decide +kernel
theorem dX7_step_129 : decode cX7_step 129 = .ok (.getfield 25, 3) := by decide +kernel
theorem dX7_step_132 : decode cX7_step 132 = .ok (.putfield 37, 3) := by decide +kernel
theorem dX7_step_135 : decode cX7_step 135 = .ok (.aload_n 0, 1) := by decide +kernel
theorem dX7_step_136 : decode cX7_step 136 = .ok (.invokevirtual 50, 3) := by decide +kernel
theorem dX7_step_139 : decode cX7_step 139 = .ok (.aload_n 0, 1) := by decide +kernel
theorem dX7_step_140 : decode cX7_step 140 = .ok (.aload_n 0, 1) := by decide +kernel
theorem dX7_step_141 : decode cX7_step 141 = .ok (.getfield 40, 3) := by decide +kernel
theorem dX7_step_144 : decode cX7_step 144 = .ok (.iconst 2, 1) := by decide +kernel
theorem dX7_step_145 : decode cX7_step 145 = .ok (.if_icmp .ne 13, 3) := by decide +kernel
theorem dX7_step_148 : decode cX7_step 148 = .ok (.aload_n 0, 1) := by decide +kernel
theorem dX7_step_149 : decode cX7_step 149 = .ok (.getfield 47, 3) := by decide +kernel
theorem dX7_step_152 : decode cX7_step 152 = .ok (.invokestatic 53, 3) := by decide +kernel
theorem dX7_step_155 : decode cX7_step 155 = .ok (.goto 4, 3) := by decide +kernel
theorem dX7_step_158 : decode cX7_step 158 = .ok (.iconst (-1), 1) := by decide +kernel
theorem dX7_step_159 : decode cX7_step 159 = .ok (.putfield 15, 3) := by decide +kernel
theorem dX7_step_162 : decode cX7_step 162 = .ok (.return_, 1) := by decide +kernel
theorem dX7_stepOver_0 : decode cX7_stepOver 0 = .ok (.aload_n 0, 1) := by decide +kernel
theorem dX7_stepOver_1 : decode cX7_stepOver 1 = .ok (.getfield 11, 3) := by decide +kernel
theorem dX7_stepOver_4 : decode cX7_stepOver 4 = .ok (.aload_n 0, 1) := by decide +kernel
theorem dX7_stepOver_5 : decode cX7_stepOver 5 = .ok (.getfield 25, 3) := by decide +kernel
theorem dX7_stepOver_8 : decode cX7_stepOver 8 = .ok (.baload, 1) := by decide +kernel
theorem dX7_stepOver_9 : decode cX7_stepOver 9 = .ok (.istore_n 1, 1) := by decide +kernel
theorem dX7_stepOver_10 : decode cX7_stepOver 10 = .ok (.iconst 0, 1) := by decide +kernel
theorem dX7_stepOver_11 : decode cX7_stepOver 11 = .ok (.istore_n 2, 1) := by decide +kernel
theorem dX7_stepOver_12 : decode cX7_stepOver 12 = .ok (.iconst 0, 1) := by decide +kernel
theorem dX7_stepOver_13 : decode cX7_stepOver 13 = .ok (.istore_n 3, 1) := by decide +kernel
theorem dX7_stepOver_14 : decode cX7_stepOver 14 = .ok (.aload_n 0, 1) := by decide +kernel
theorem dX7_stepOver_15 : decode cX7_stepOver 15 = .ok (.getfield 25, 3) := by decide +kernel
theorem dX7_stepOver_18 : decode cX7_stepOver 18 = .ok (.aload_n 0, 1) := by decide +kernel
theorem dX7_stepOver_19 : decode cX7_stepOver 19 = .ok (.getfield 19, 3) := by decide +kernel
theorem dX7_stepOver_22 : decode cX7_stepOver 22 = .ok (.if_icmp .ge 100, 3) := by decide +kernel
theorem dX7_stepOver_25 : decode cX7_stepOver 25 = .ok (.aload_n 0, 1) := by decide +kernel
theorem dX7_stepOver_26 : decode cX7_stepOver 26 = .ok (.getfield 11, 3) := by decide +kernel
theorem dX7_stepOver_29 : decode cX7_stepOver 29 = .ok (.aload_n 0, 1) := by decide +kernel
theorem dX7_stepOver_30 : decode cX7_stepOver 30 = .ok (.getfield 25, 3) := by decide +kernel
theorem dX7_stepOver_33 : decode cX7_stepOver 33 = .ok (.baload, 1) := by decide +kernel
theorem dX7_stepOver_34 : decode cX7_stepOver 34 = .ok (.istore 4, 2) := by decide +kernel
theorem dX7_stepOver_36 : decode cX7_stepOver 36 = .ok (.iload 4, 2) := by decide +kernel
theorem dX7_stepOver_38 : decode cX7_stepOver 38 = .ok (.bipush 48, 2) := by decide +kernel
theorem dX7_stepOver_40 : decode cX7_stepOver 40 = .ok (.if_icmp .lt 33, 3) := by decide +kernel
theorem dX7_stepOver_43 : decode cX7_stepOver 43 = .ok (.iload 4, 2) := by decide +kernel
theorem dX7_stepOver_45 : decode cX7_stepOver 45 = .ok (.bipush 57, 2) := by decide +kernel
theorem dX7_stepOver_47 : decode cX7_stepOver 47 = .ok (.if_icmp .gt 26, 3) := by decide +kernel
theorem dX7_stepOver_50 : decode cX7_stepOver 50 = .ok (.iinc 3 1, 3) := by decide +kernel
theorem dX7_stepOver_53 : decode cX7_stepOver 53 = .ok (.aload_n 0, 1) := by decide +kernel
theorem dX7_stepOver_54 : decode cX7_stepOver 54 = .ok (.aload_n 0, 1) := by decide +kernel
theorem dX7_stepOver_55 : decode cX7_stepOver 55 = .ok (.getfield 47, 3) := by decide +kernel
theorem dX7_stepOver_58 : decode cX7_stepOver 58 = .ok (.bipush 10, 2) := by decide +kernel
theorem dX7_stepOver_60 : decode cX7_stepOver 60 = .ok (.imul, 1) := by decide +kernel
theorem dX7_stepOver_61 : decode cX7_stepOver 61 = .ok (.iload 4, 2) := by decide +kernel
theorem dX7_stepOver_63 : decode cX7_stepOver 63 = .ok (.iadd, 1) := by decide +kernel
theorem dX7_stepOver_64 : decode cX7_stepOver 64 = .ok (.bipush 48, 2) := by decide +kernel
theorem dX7_stepOver_66 : decode cX7_stepOver 66 = .ok (.isub, 1) := by decide +kernel
theorem dX7_stepOver_67 : decode cX7_stepOver 67 = .ok (.putfield 47, 3) := by decide +kernel
theorem dX7_stepOver_70 : decode cX7_stepOver 70 = .ok (.goto 39, 3) := by decide +kernel
theorem dX7_stepOver_73 : decode cX7_stepOver 73 = .ok (.iload 4, 2) := by decide +kernel
theorem dX7_stepOver_75 : decode cX7_stepOver 75 = .ok (.bipush 97, 2) := by decide +kernel
theorem dX7_stepOver_77 : decode cX7_stepOver 77 = .ok (.if_icmp .lt 45, 3) := by decide +kernel
theorem dX7_stepOver_80 : decode cX7_stepOver 80 = .ok (.iload 4, 2) := by decide +kernel
theorem dX7_stepOver_82 : decode cX7_stepOver 82 = .ok (.bipush 122, 2) := by decide +kernel
theorem dX7_stepOver_84 : decode cX7_stepOver 84 = .ok (.if_icmp .gt 38, 3) := by decide +kernel
theorem dX7_stepOver_87 : decode cX7_stepOver 87 = .ok (.iinc 2 1, 3) := by decide +kernel
theorem dX7_stepOver_90 : decode cX7_stepOver 90 = .ok (.aload_n 0, 1) := by decide +kernel
theorem dX7_stepOver_91 : decode cX7_stepOver 91 = .ok (.aload_n 0, 1) := by decide +kernel
theorem dX7_stepOver_92 : decode cX7_stepOver 92 = .ok (.getfield 47, 3) := by decide +kernel
theorem dX7_stepOver_95 : decode cX7_stepOver 95 = .ok (.bipush 32, 2) := by decide +kernel
theorem dX7_stepOver_97 : decode cX7_stepOver 97 = .ok (.imul, 1) := by decide +kernel
theorem dX7_stepOver_98 : decode cX7_stepOver 98 = .ok (.iload 4, 2) := by decide +kernel
theorem dX7_stepOver_100 : decode cX7_stepOver 100 = .ok (.iadd, 1) := by decide +kernel
theorem dX7_stepOver_101 : decode cX7_stepOver 101 = .ok (.bipush 97, 2) := by decide +kernel
theorem dX7_stepOver_103 : decode cX7_stepOver 103 = .ok (.isub, 1) := by decide +kernel
theorem dX7_stepOver_104 : decode cX7_stepOver 104 = .ok (.iconst 1, 1) := by decide +kernel
theorem dX7_stepOver_105 : decode cX7_stepOver 105 = .ok (.iadd, 1) := by decide +kernel
theorem dX7_stepOver_106 : decode cX7_stepOver 106 = .ok (.putfield 47, 3) := by decide +kernel
theorem dX7_stepOver_109 : decode cX7_stepOver 109 = .ok (.aload_n 0, 1) := by decide +kernel
theorem dX7_stepOver_110 : decode cX7_stepOver 110 = .ok (.dup, 1) := by decide +kernel
theorem dX7_stepOver_111 : decode cX7_stepOver 111 = .ok (.getfield 25, 3) := by decide +kernel
theorem dX7_stepOver_114 : decode cX7_stepOver 114 = .ok (.iconst 1, 1) := by decide +kernel
theorem dX7_stepOver_115 : decode cX7_stepOver 115 = .ok (.iadd, 1) := by decide +kernel
theorem dX7_stepOver_116 : decode cX7_stepOver 116 = .ok (.putfield 25, 3) := by decide +kernel
theorem dX7_stepOver_119 : decode cX7_stepOver 119 = .ok (.goto (-105), 3) := by decide +kernel
theorem dX7_stepOver_122 : decode cX7_stepOver 122 = .ok (.iload_n 2, 1) := by decide +kernel
theorem dX7_stepOver_123 : decode cX7_stepOver 123 = .ok (.iload_n 3, 1) := by decide +kernel
theorem dX7_stepOver_124 : decode cX7_stepOver 124 = .ok (.iadd, 1) := by decide +kernel
theorem dX7_stepOver_125 : decode cX7_stepOver 125 = .ok (.ifCond .ne 79, 3) := by decide +kernel
theorem dX7_stepOver_128 : decode cX7_stepOver 128 = .ok (.iload_n 1, 1) := by decide +kernel
theorem dX7_stepOver_129 : decode cX7_stepOver 129 = .ok (.bipush 59, 2) := by decide +kernel
theorem dX7_stepOver_131 : decode cX7_stepOver 131 = .ok (.if_icmp .eq 39, 3) := by decide +kernel
theorem dX7_stepOver_134 : decode cX7_stepOver 134 = .ok (.iload_n 1, 1) := by decide +kernel
theorem dX7_stepOver_135 : decode cX7_stepOver 135 = .ok (.bipush 43, 2) := by decide +kernel
theorem dX7_stepOver_137 : decode cX7_stepOver 137 = .ok (.if_icmp .eq 33, 3) := by decide +kernel
theorem dX7_stepOver_140 : decode cX7_stepOver 140 = .ok (.iload_n 1, 1) := by decide +kernel
theorem dX7_stepOver_141 : decode cX7_stepOver 141 = .ok (.bipush 45, 2) := by decide +kernel
theorem dX7_stepOver_143 : decode cX7_stepOver 143 = .ok (.if_icmp .eq 27, 3) := by decide +kernel
theorem dX7_stepOver_146 : decode cX7_stepOver 146 = .ok (.iload_n 1, 1) := by decide +kernel
theorem dX7_stepOver_147 : decode cX7_stepOver 147 = .ok (.bipush 40, 2) := by decide +kernel
theorem dX7_stepOver_149 : decode cX7_stepOver 149 = .ok (.if_icmp .eq 21, 3) := by decide +kernel
theorem dX7_stepOver_152 : decode cX7_stepOver 152 = .ok (.iload_n 1, 1) := by decide +kernel
theorem dX7_stepOver_153 : decode cX7_stepOver 153 = .ok (.bipush 41, 2) := by decide +kernel
theorem dX7_stepOver_155 : decode cX7_stepOver 155 = .ok (.if_icmp .eq 15, 3) := by decide +kernel
theorem dX7_stepOver_158 : decode cX7_stepOver 158 = .ok (.iload_n 1, 1) := by decide +kernel
theorem dX7_stepOver_159 : decode cX7_stepOver 159 = .ok (.bipush 60, 2) := by decide +kernel
theorem dX7_stepOver_161 : decode cX7_stepOver 161 = .ok (.if_icmp .lt 13, 3) := by decide +kernel
theorem dX7_stepOver_164 : decode cX7_stepOver 164 = .ok (.iload_n 1, 1) := by decide +kernel
theorem dX7_stepOver_165 : decode cX7_stepOver 165 = .ok (.bipush 62, 2) := by decide +kernel
theorem dX7_stepOver_167 : decode cX7_stepOver 167 = .ok (.if_icmp .gt 7, 3) := by decide +kernel
theorem dX7_stepOver_170 : decode cX7_stepOver 170 = .ok (.iconst 1, 1) := by decide +kernel
theorem dX7_stepOver_171 : decode cX7_stepOver 171 = .ok (.goto 4, 3) := by decide +kernel
theorem dX7_stepOver_174 : decode cX7_stepOver 174 = .ok (.iconst 0, 1) := by decide +kernel
theorem dX7_stepOver_175 : decode cX7_stepOver 175 = .ok (.istore 4, 2) := by decide +kernel
theorem dX7_stepOver_177 : decode cX7_stepOver 177 = .ok (.aload_n 0, 1) := by decide +kernel
theorem dX7_stepOver_178 : decode cX7_stepOver 178 = .ok (.iload 4, 2) := by decide +kernel
theorem dX7_stepOver_180 : decode cX7_stepOver 180 = .ok (.ifCond .eq 7, 3) := by decide +kernel
theorem dX7_stepOver_183 : decode cX7_stepOver 183 = .ok (.iload_n 1, 1) := by decide +kernel
theorem dX7_stepOver_184 : decode cX7_stepOver 184 = .ok (.goto 4, 3) := by decide +kernel
theorem dX7_stepOver_187 : decode cX7_stepOver 187 = .ok (.iconst 1, 1) := by decide +kernel
theorem dX7_stepOver_188 : decode cX7_stepOver 188 = .ok (.putfield 40, 3) := by decide +kernel
theorem dX7_stepOver_191 : decode cX7_stepOver 191 = .ok (.aload_n 0, 1) := by decide +kernel
theorem dX7_stepOver_192 : decode cX7_stepOver 192 = .ok (.dup, 1) := by decide +kernel
theorem dX7_stepOver_193 : decode cX7_stepOver 193 = .ok (.getfield 25, 3) := by decide +kernel
theorem dX7_stepOver_196 : decode cX7_stepOver 196 = .ok (.iconst 1, 1) := by decide +kernel
theorem dX7_stepOver_197 : decode cX7_stepOver 197 = .ok (.iadd, 1) := by decide +kernel
theorem dX7_stepOver_198 : decode cX7_stepOver 198 = .ok (.putfield 25, 3) := by decide +kernel
theorem dX7_stepOver_201 : decode cX7_stepOver 201 = .ok (.goto 43, 3) := by decide +kernel
theorem dX7_stepOver_204 : decode cX7_stepOver 204 = .ok (.iload_n 3, 1) := by decide +kernel
theorem dX7_stepOver_205 : decode cX7_stepOver 205 = .ok (.ifCond .ne 21, 3) := by decide +kernel
theorem dX7_stepOver_208 : decode cX7_stepOver 208 = .ok (.aload_n 0, 1) := by decide +kernel
theorem dX7_stepOver_209 : decode cX7_stepOver 209 = .ok (.iload_n 2, 1) := by decide +kernel
theorem dX7_stepOver_210 : decode cX7_stepOver 210 = .ok (.bipush 6, 2) := by decide +kernel
theorem dX7_stepOver_212 : decode cX7_stepOver 212 = .ok (.if_icmp .gt 7, 3) := by decide +kernel
theorem dX7_stepOver_215 : decode cX7_stepOver 215 = .ok (.iconst 2, 1) := by decide +kernel
theorem dX7_stepOver_216 : decode cX7_stepOver 216 = .ok (.goto 4, 3) := by decide +kernel
theorem dX7_stepOver_219 : decode cX7_stepOver 219 = .ok (.iconst 1, 1) := by decide +kernel
theorem dX7_stepOver_220 : decode cX7_stepOver 220 = .ok (.putfield 40, 3) := by decide +kernel
theorem dX7_stepOver_223 : decode cX7_stepOver 223 = .ok (.goto 21, 3) := by decide +kernel
theorem dX7_stepOver_226 : decode cX7_stepOver 226 = .ok (.aload_n 0, 1) := by decide +kernel
theorem dX7_stepOver_227 : decode cX7_stepOver 227 = .ok (.iload_n 2, 1) := by decide +kernel
theorem dX7_stepOver_228 : decode cX7_stepOver 228 = .ok (.ifCond .ne 12, 3) := by decide +kernel
theorem dX7_stepOver_231 : decode cX7_stepOver 231 = .ok (.iload_n 3, 1) := by decide +kernel
theorem dX7_stepOver_232 : decode cX7_stepOver 232 = .ok (.iconst 3, 1) := by decide +kernel
theorem dX7_stepOver_233 : decode cX7_stepOver 233 = .ok (.if_icmp .gt 7, 3) := by decide +kernel
theorem dX7_stepOver_236 : decode cX7_stepOver 236 = .ok (.iconst 3, 1) := by decide +kernel
theorem dX7_stepOver_237 : decode cX7_stepOver 237 = .ok (.goto 4, 3) := by decide +kernel
theorem dX7_stepOver_240 : decode cX7_stepOver 240 = .ok (.iconst 1, 1) := by decide +kernel
theorem dX7_stepOver_241 : decode cX7_stepOver 241 = .ok (.putfield 40, 3) := by decide +kernel
theorem dX7_stepOver_244 : decode cX7_stepOver 244 = .ok (.return_, 1) := by decide +kernel
theorem dX7_wordOf_0 : decode cX7_wordOf 0 = .ok (.iconst 0, 1) := by decide +kernel
theorem dX7_wordOf_1 : decode cX7_wordOf 1 = .ok (.istore_n 1, 1) := by decide +kernel
theorem dX7_wordOf_2 : decode cX7_wordOf 2 = .ok (.iconst 0, 1) := by decide +kernel
theorem dX7_wordOf_3 : decode cX7_wordOf 3 = .ok (.istore_n 2, 1) := by decide +kernel
theorem dX7_wordOf_4 : decode cX7_wordOf 4 = .ok (.iconst 0, 1) := by decide +kernel
theorem dX7_wordOf_5 : decode cX7_wordOf 5 = .ok (.istore_n 3, 1) := by decide +kernel
theorem dX7_wordOf_6 : decode cX7_wordOf 6 = .ok (.iload_n 3, 1) := by decide +kernel
theorem dX7_wordOf_7 : decode cX7_wordOf 7 = .ok (.ldc 57, 2) := by decide +kernel
theorem dX7_wordOf_9 : decode cX7_wordOf 9 = .ok (.invokevirtual 59, 3) := by decide +kernel
theorem dX7_wordOf_12 : decode cX7_wordOf 12 = .ok (.if_icmp .ge 52, 3) := by decide +kernel
theorem dX7_wordOf_15 : decode cX7_wordOf 15 = .ok (.ldc 57, 2) := by decide +kernel
theorem dX7_wordOf_17 : decode cX7_wordOf 17 = .ok (.iload_n 3, 1) := by decide +kernel
theorem dX7_wordOf_18 : decode cX7_wordOf 18 = .ok (.invokevirtual 65, 3) := by decide +kernel
theorem dX7_wordOf_21 : decode cX7_wordOf 21 = .ok (.istore 4, 2) := by decide +kernel
theorem dX7_wordOf_23 : decode cX7_wordOf 23 = .ok (.iload 4, 2) := by decide +kernel
theorem dX7_wordOf_25 : decode cX7_wordOf 25 = .ok (.bipush 32, 2) := by decide +kernel
theorem dX7_wordOf_27 : decode cX7_wordOf 27 = .ok (.if_icmp .eq 19, 3) := by decide +kernel
theorem dX7_wordOf_30 : decode cX7_wordOf 30 = .ok (.iload_n 2, 1) := by decide +kernel
theorem dX7_wordOf_31 : decode cX7_wordOf 31 = .ok (.bipush 32, 2) := by decide +kernel
theorem dX7_wordOf_33 : decode cX7_wordOf 33 = .ok (.imul, 1) := by decide +kernel
theorem dX7_wordOf_34 : decode cX7_wordOf 34 = .ok (.iload 4, 2) := by decide +kernel
theorem dX7_wordOf_36 : decode cX7_wordOf 36 = .ok (.iadd, 1) := by decide +kernel
theorem dX7_wordOf_37 : decode cX7_wordOf 37 = .ok (.bipush 97, 2) := by decide +kernel
theorem dX7_wordOf_39 : decode cX7_wordOf 39 = .ok (.isub, 1) := by decide +kernel
theorem dX7_wordOf_40 : decode cX7_wordOf 40 = .ok (.iconst 1, 1) := by decide +kernel
theorem dX7_wordOf_41 : decode cX7_wordOf 41 = .ok (.iadd, 1) := by decide +kernel
theorem dX7_wordOf_42 : decode cX7_wordOf 42 = .ok (.istore_n 2, 1) := by decide +kernel
theorem dX7_wordOf_43 : decode cX7_wordOf 43 = .ok (.goto 15, 3) := by decide +kernel
theorem dX7_wordOf_46 : decode cX7_wordOf 46 = .ok (.iload_n 2, 1) := by decide +kernel
theorem dX7_wordOf_47 : decode cX7_wordOf 47 = .ok (.iload_n 0, 1) := by decide +kernel
theorem dX7_wordOf_48 : decode cX7_wordOf 48 = .ok (.if_icmp .ne 5, 3) := by decide +kernel
theorem dX7_wordOf_51 : decode cX7_wordOf 51 = .ok (.iload_n 1, 1) := by decide +kernel
theorem dX7_wordOf_52 : decode cX7_wordOf 52 = .ok (.ireturn, 1) := by decide +kernel
theorem dX7_wordOf_53 : decode cX7_wordOf 53 = .ok (.iinc 1 1, 3) := by decide +kernel
theorem dX7_wordOf_56 : decode cX7_wordOf 56 = .ok (.iconst 0, 1) := by decide +kernel
theorem dX7_wordOf_57 : decode cX7_wordOf 57 = .ok (.istore_n 2, 1) := by decide +kernel
theorem dX7_wordOf_58 : decode cX7_wordOf 58 = .ok (.iinc 3 1, 3) := by decide +kernel
theorem dX7_wordOf_61 : decode cX7_wordOf 61 = .ok (.goto (-55), 3) := by decide +kernel
theorem dX7_wordOf_64 : decode cX7_wordOf 64 = .ok (.iconst (-1), 1) := by decide +kernel
theorem dX7_wordOf_65 : decode cX7_wordOf 65 = .ok (.ireturn, 1) := by decide +kernel
