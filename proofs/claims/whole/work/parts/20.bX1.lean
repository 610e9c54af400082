theorem e_X1_clear {l : Launch} {D : Nat} {ζ : ZP} {h : HI} {Q : HI → Prop} (hn : 144 ≤ ζ.2.2.2.2) (w : Q (hu (hu h 10 0 0) 10 7 0)) : RtV l (D + 1) mX1_clear (zz ζ) [aP 10] h Q := by
  refine RtV.of 0 pn_X1 [aP 10] rfl rfl ?_
  refine g_aload_n dX1_clear_0 rfl ?_
  refine g_iconst dX1_clear_1 ?_
  refine g_putI (J := 0) dX1_clear_2 fl_X1_45 sh_10 (al_10 hn) rfl rfl ?_
  refine g_aload_n dX1_clear_5 rfl ?_
  refine g_iconst dX1_clear_6 ?_
  refine g_putI (J := 7) dX1_clear_7 fl_X1_49 sh_10 (al_10 hn) rfl rfl ?_
  exact g_retV dX1_clear_10 rfl w
theorem e_X1_copyFrom_in {l : Launch} {D : Nat} {ζ : ZP} {h : HI} {Q : HI → Prop} {u : Nat} (hn : 144 ≤ ζ.2.2.2.2) (hu0 : isU u) (hun : u + 30 ≤ ζ.2.2.2.2) (w : Q (hcp (hcp (hcp (hcp (hu (hcp (hcp (hcp (hcp (hcp (hcp (hu h 10 0 (h (u + 7) 0)) (u + 8) 0 11 0 60) (u + 9) 0 12 0 400) (u + 10) 0 13 0 10) (u + 11) 0 14 0 10) (u + 12) 0 15 0 10) (u + 13) 0 16 0 10) 10 7 ((hcp (hcp (hcp (hcp (hcp (hcp (hu h 10 0 (h (u + 7) 0)) (u + 8) 0 11 0 60) (u + 9) 0 12 0 400) (u + 10) 0 13 0 10) (u + 11) 0 14 0 10) (u + 12) 0 15 0 10) (u + 13) 0 16 0 10) (u + 7) 7)) (u + 14) 0 17 0 30) (u + 15) 0 18 0 30) (u + 16) 0 19 0 30) (u + 17) 0 20 0 30)) : RtV l (D + 1) mX1_copyFrom (zz ζ) [aP 10, aP (u + 7)] h Q := by
  refine RtV.of 0 pn_X1 [aP 10, aP (u + 7)] rfl rfl ?_
  refine g_aload_n dX1_copyFrom_0 rfl ?_
  refine g_aload_n dX1_copyFrom_1 rfl ?_
  refine g_getI (J := 0) dX1_copyFrom_2 fl_X1_45 (shu_7 hu0) (alu_7 hun) (fun _ _ _ => rfl) rfl ?_
  refine g_putI (J := 0) dX1_copyFrom_5 fl_X1_45 sh_10 (al_10 hn) rfl rfl ?_
  refine g_aload_n dX1_copyFrom_8 rfl ?_
  refine g_getR dX1_copyFrom_9 fl_X1_9 (shu_7 hu0) (alu_7 hun) (fun _ _ _ => rfl) (rfu_7_1 hu0) ?_
  refine g_iconst dX1_copyFrom_12 ?_
  refine g_aload_n dX1_copyFrom_13 rfl ?_
  refine g_getR dX1_copyFrom_14 fl_X1_9 sh_10 (al_10 hn) (fun _ _ _ => rfl) rf_10_1 ?_
  refine g_iconst dX1_copyFrom_17 ?_
  refine g_bipush dX1_copyFrom_18 rfl ?_
  refine g_copy dX1_copyFrom_20 cw_X1_52 (Nat.le_of_ble_eq_true rfl) (shu_8 hu0) (alu_8 hun) sh_11 (al_11 hn) (Nat.le_of_ble_eq_true rfl) (Nat.le_of_ble_eq_true rfl) (by decide) ?_
  refine g_aload_n dX1_copyFrom_23 rfl ?_
  refine g_getR dX1_copyFrom_24 fl_X1_15 (shu_7 hu0) (alu_7 hun) (fun _ _ _ => rfl) (rfu_7_2 hu0) ?_
  refine g_iconst dX1_copyFrom_27 ?_
  refine g_aload_n dX1_copyFrom_28 rfl ?_
  refine g_getR dX1_copyFrom_29 fl_X1_15 sh_10 (al_10 hn) (fun _ _ _ => rfl) rf_10_2 ?_
  refine g_iconst dX1_copyFrom_32 ?_
  refine g_sipush dX1_copyFrom_33 rfl ?_
  refine g_copy dX1_copyFrom_36 cw_X1_52 (Nat.le_of_ble_eq_true rfl) (shu_9 hu0) (alu_9 hun) sh_12 (al_12 hn) (Nat.le_of_ble_eq_true rfl) (Nat.le_of_ble_eq_true rfl) (by decide) ?_
  refine g_aload_n dX1_copyFrom_39 rfl ?_
  refine g_getR dX1_copyFrom_40 fl_X1_18 (shu_7 hu0) (alu_7 hun) (fun _ _ _ => rfl) (rfu_7_3 hu0) ?_
  refine g_iconst dX1_copyFrom_43 ?_
  refine g_aload_n dX1_copyFrom_44 rfl ?_
  refine g_getR dX1_copyFrom_45 fl_X1_18 sh_10 (al_10 hn) (fun _ _ _ => rfl) rf_10_3 ?_
  refine g_iconst dX1_copyFrom_48 ?_
  refine g_bipush dX1_copyFrom_49 rfl ?_
  refine g_copy dX1_copyFrom_51 cw_X1_52 (Nat.le_of_ble_eq_true rfl) (shu_10 hu0) (alu_10 hun) sh_13 (al_13 hn) (Nat.le_of_ble_eq_true rfl) (Nat.le_of_ble_eq_true rfl) (by decide) ?_
  refine g_aload_n dX1_copyFrom_54 rfl ?_
  refine g_getR dX1_copyFrom_55 fl_X1_21 (shu_7 hu0) (alu_7 hun) (fun _ _ _ => rfl) (rfu_7_4 hu0) ?_
  refine g_iconst dX1_copyFrom_58 ?_
  refine g_aload_n dX1_copyFrom_59 rfl ?_
  refine g_getR dX1_copyFrom_60 fl_X1_21 sh_10 (al_10 hn) (fun _ _ _ => rfl) rf_10_4 ?_
  refine g_iconst dX1_copyFrom_63 ?_
  refine g_bipush dX1_copyFrom_64 rfl ?_
  refine g_copy dX1_copyFrom_66 cw_X1_52 (Nat.le_of_ble_eq_true rfl) (shu_11 hu0) (alu_11 hun) sh_14 (al_14 hn) (Nat.le_of_ble_eq_true rfl) (Nat.le_of_ble_eq_true rfl) (by decide) ?_
  refine g_aload_n dX1_copyFrom_69 rfl ?_
  refine g_getR dX1_copyFrom_70 fl_X1_24 (shu_7 hu0) (alu_7 hun) (fun _ _ _ => rfl) (rfu_7_5 hu0) ?_
  refine g_iconst dX1_copyFrom_73 ?_
  refine g_aload_n dX1_copyFrom_74 rfl ?_
  refine g_getR dX1_copyFrom_75 fl_X1_24 sh_10 (al_10 hn) (fun _ _ _ => rfl) rf_10_5 ?_
  refine g_iconst dX1_copyFrom_78 ?_
  refine g_bipush dX1_copyFrom_79 rfl ?_
  refine g_copy dX1_copyFrom_81 cw_X1_52 (Nat.le_of_ble_eq_true rfl) (shu_12 hu0) (alu_12 hun) sh_15 (al_15 hn) (Nat.le_of_ble_eq_true rfl) (Nat.le_of_ble_eq_true rfl) (by decide) ?_
  refine g_aload_n dX1_copyFrom_84 rfl ?_
  refine g_getR dX1_copyFrom_85 fl_X1_27 (shu_7 hu0) (alu_7 hun) (fun _ _ _ => rfl) (rfu_7_6 hu0) ?_
  refine g_iconst dX1_copyFrom_88 ?_
  refine g_aload_n dX1_copyFrom_89 rfl ?_
  refine g_getR dX1_copyFrom_90 fl_X1_27 sh_10 (al_10 hn) (fun _ _ _ => rfl) rf_10_6 ?_
  refine g_iconst dX1_copyFrom_93 ?_
  refine g_bipush dX1_copyFrom_94 rfl ?_
  refine g_copy dX1_copyFrom_96 cw_X1_52 (Nat.le_of_ble_eq_true rfl) (shu_13 hu0) (alu_13 hun) sh_16 (al_16 hn) (Nat.le_of_ble_eq_true rfl) (Nat.le_of_ble_eq_true rfl) (by decide) ?_
  refine g_aload_n dX1_copyFrom_99 rfl ?_
  refine g_aload_n dX1_copyFrom_100 rfl ?_
  refine g_getI (J := 7) dX1_copyFrom_101 fl_X1_49 (shu_7 hu0) (alu_7 hun) (fun _ _ _ => rfl) rfl ?_
  refine g_putI (J := 7) dX1_copyFrom_104 fl_X1_49 sh_10 (al_10 hn) rfl rfl ?_
  refine g_aload_n dX1_copyFrom_107 rfl ?_
  refine g_getR dX1_copyFrom_108 fl_X1_30 (shu_7 hu0) (alu_7 hun) (fun _ _ _ => rfl) (rfu_7_8 hu0) ?_
  refine g_iconst dX1_copyFrom_111 ?_
  refine g_aload_n dX1_copyFrom_112 rfl ?_
  refine g_getR dX1_copyFrom_113 fl_X1_30 sh_10 (al_10 hn) (fun _ _ _ => rfl) rf_10_8 ?_
  refine g_iconst dX1_copyFrom_116 ?_
  refine g_bipush dX1_copyFrom_117 rfl ?_
  refine g_copy dX1_copyFrom_119 cw_X1_52 (Nat.le_of_ble_eq_true rfl) (shu_14 hu0) (alu_14 hun) sh_17 (al_17 hn) (Nat.le_of_ble_eq_true rfl) (Nat.le_of_ble_eq_true rfl) (by decide) ?_
  refine g_aload_n dX1_copyFrom_122 rfl ?_
  refine g_getR dX1_copyFrom_123 fl_X1_33 (shu_7 hu0) (alu_7 hun) (fun _ _ _ => rfl) (rfu_7_9 hu0) ?_
  refine g_iconst dX1_copyFrom_126 ?_
  refine g_aload_n dX1_copyFrom_127 rfl ?_
  refine g_getR dX1_copyFrom_128 fl_X1_33 sh_10 (al_10 hn) (fun _ _ _ => rfl) rf_10_9 ?_
  refine g_iconst dX1_copyFrom_131 ?_
  refine g_bipush dX1_copyFrom_132 rfl ?_
  refine g_copy dX1_copyFrom_134 cw_X1_52 (Nat.le_of_ble_eq_true rfl) (shu_15 hu0) (alu_15 hun) sh_18 (al_18 hn) (Nat.le_of_ble_eq_true rfl) (Nat.le_of_ble_eq_true rfl) (by decide) ?_
  refine g_aload_n dX1_copyFrom_137 rfl ?_
  refine g_getR dX1_copyFrom_138 fl_X1_36 (shu_7 hu0) (alu_7 hun) (fun _ _ _ => rfl) (rfu_7_10 hu0) ?_
  refine g_iconst dX1_copyFrom_141 ?_
  refine g_aload_n dX1_copyFrom_142 rfl ?_
  refine g_getR dX1_copyFrom_143 fl_X1_36 sh_10 (al_10 hn) (fun _ _ _ => rfl) rf_10_10 ?_
  refine g_iconst dX1_copyFrom_146 ?_
  refine g_bipush dX1_copyFrom_147 rfl ?_
  refine g_copy dX1_copyFrom_149 cw_X1_52 (Nat.le_of_ble_eq_true rfl) (shu_16 hu0) (alu_16 hun) sh_19 (al_19 hn) (Nat.le_of_ble_eq_true rfl) (Nat.le_of_ble_eq_true rfl) (by decide) ?_
  refine g_aload_n dX1_copyFrom_152 rfl ?_
  refine g_getR dX1_copyFrom_153 fl_X1_39 (shu_7 hu0) (alu_7 hun) (fun _ _ _ => rfl) (rfu_7_11 hu0) ?_
  refine g_iconst dX1_copyFrom_156 ?_
  refine g_aload_n dX1_copyFrom_157 rfl ?_
  refine g_getR dX1_copyFrom_158 fl_X1_39 sh_10 (al_10 hn) (fun _ _ _ => rfl) rf_10_11 ?_
  refine g_iconst dX1_copyFrom_161 ?_
  refine g_bipush dX1_copyFrom_162 rfl ?_
  refine g_copy dX1_copyFrom_164 cw_X1_52 (Nat.le_of_ble_eq_true rfl) (shu_17 hu0) (alu_17 hun) sh_20 (al_20 hn) (Nat.le_of_ble_eq_true rfl) (Nat.le_of_ble_eq_true rfl) (by decide) ?_
  exact g_retV dX1_copyFrom_167 rfl w
theorem e_X1_copyFrom_out {l : Launch} {D : Nat} {ζ : ZP} {h : HI} {Q : HI → Prop} {u : Nat} (hn : 144 ≤ ζ.2.2.2.2) (hu0 : isU u) (hun : u + 30 ≤ ζ.2.2.2.2) (w : Q (hcp (hcp (hcp (hcp (hu (hcp (hcp (hcp (hcp (hcp (hcp (hu h (u + 7) 0 (h 10 0)) 11 0 (u + 8) 0 60) 12 0 (u + 9) 0 400) 13 0 (u + 10) 0 10) 14 0 (u + 11) 0 10) 15 0 (u + 12) 0 10) 16 0 (u + 13) 0 10) (u + 7) 7 ((hcp (hcp (hcp (hcp (hcp (hcp (hu h (u + 7) 0 (h 10 0)) 11 0 (u + 8) 0 60) 12 0 (u + 9) 0 400) 13 0 (u + 10) 0 10) 14 0 (u + 11) 0 10) 15 0 (u + 12) 0 10) 16 0 (u + 13) 0 10) 10 7)) 17 0 (u + 14) 0 30) 18 0 (u + 15) 0 30) 19 0 (u + 16) 0 30) 20 0 (u + 17) 0 30)) : RtV l (D + 1) mX1_copyFrom (zz ζ) [aP (u + 7), aP 10] h Q := by
  refine RtV.of 0 pn_X1 [aP (u + 7), aP 10] rfl rfl ?_
  refine g_aload_n dX1_copyFrom_0 rfl ?_
  refine g_aload_n dX1_copyFrom_1 rfl ?_
  refine g_getI (J := 0) dX1_copyFrom_2 fl_X1_45 sh_10 (al_10 hn) (fun _ _ _ => rfl) rfl ?_
  refine g_putI (J := 0) dX1_copyFrom_5 fl_X1_45 (shu_7 hu0) (alu_7 hun) rfl rfl ?_
  refine g_aload_n dX1_copyFrom_8 rfl ?_
  refine g_getR dX1_copyFrom_9 fl_X1_9 sh_10 (al_10 hn) (fun _ _ _ => rfl) rf_10_1 ?_
  refine g_iconst dX1_copyFrom_12 ?_
  refine g_aload_n dX1_copyFrom_13 rfl ?_
  refine g_getR dX1_copyFrom_14 fl_X1_9 (shu_7 hu0) (alu_7 hun) (fun _ _ _ => rfl) (rfu_7_1 hu0) ?_
  refine g_iconst dX1_copyFrom_17 ?_
  refine g_bipush dX1_copyFrom_18 rfl ?_
  refine g_copy dX1_copyFrom_20 cw_X1_52 (Nat.le_of_ble_eq_true rfl) sh_11 (al_11 hn) (shu_8 hu0) (alu_8 hun) (Nat.le_of_ble_eq_true rfl) (Nat.le_of_ble_eq_true rfl) (by decide) ?_
  refine g_aload_n dX1_copyFrom_23 rfl ?_
  refine g_getR dX1_copyFrom_24 fl_X1_15 sh_10 (al_10 hn) (fun _ _ _ => rfl) rf_10_2 ?_
  refine g_iconst dX1_copyFrom_27 ?_
  refine g_aload_n dX1_copyFrom_28 rfl ?_
  refine g_getR dX1_copyFrom_29 fl_X1_15 (shu_7 hu0) (alu_7 hun) (fun _ _ _ => rfl) (rfu_7_2 hu0) ?_
  refine g_iconst dX1_copyFrom_32 ?_
  refine g_sipush dX1_copyFrom_33 rfl ?_
  refine g_copy dX1_copyFrom_36 cw_X1_52 (Nat.le_of_ble_eq_true rfl) sh_12 (al_12 hn) (shu_9 hu0) (alu_9 hun) (Nat.le_of_ble_eq_true rfl) (Nat.le_of_ble_eq_true rfl) (by decide) ?_
  refine g_aload_n dX1_copyFrom_39 rfl ?_
  refine g_getR dX1_copyFrom_40 fl_X1_18 sh_10 (al_10 hn) (fun _ _ _ => rfl) rf_10_3 ?_
  refine g_iconst dX1_copyFrom_43 ?_
  refine g_aload_n dX1_copyFrom_44 rfl ?_
  refine g_getR dX1_copyFrom_45 fl_X1_18 (shu_7 hu0) (alu_7 hun) (fun _ _ _ => rfl) (rfu_7_3 hu0) ?_
  refine g_iconst dX1_copyFrom_48 ?_
  refine g_bipush dX1_copyFrom_49 rfl ?_
  refine g_copy dX1_copyFrom_51 cw_X1_52 (Nat.le_of_ble_eq_true rfl) sh_13 (al_13 hn) (shu_10 hu0) (alu_10 hun) (Nat.le_of_ble_eq_true rfl) (Nat.le_of_ble_eq_true rfl) (by decide) ?_
  refine g_aload_n dX1_copyFrom_54 rfl ?_
  refine g_getR dX1_copyFrom_55 fl_X1_21 sh_10 (al_10 hn) (fun _ _ _ => rfl) rf_10_4 ?_
  refine g_iconst dX1_copyFrom_58 ?_
  refine g_aload_n dX1_copyFrom_59 rfl ?_
  refine g_getR dX1_copyFrom_60 fl_X1_21 (shu_7 hu0) (alu_7 hun) (fun _ _ _ => rfl) (rfu_7_4 hu0) ?_
  refine g_iconst dX1_copyFrom_63 ?_
  refine g_bipush dX1_copyFrom_64 rfl ?_
  refine g_copy dX1_copyFrom_66 cw_X1_52 (Nat.le_of_ble_eq_true rfl) sh_14 (al_14 hn) (shu_11 hu0) (alu_11 hun) (Nat.le_of_ble_eq_true rfl) (Nat.le_of_ble_eq_true rfl) (by decide) ?_
  refine g_aload_n dX1_copyFrom_69 rfl ?_
  refine g_getR dX1_copyFrom_70 fl_X1_24 sh_10 (al_10 hn) (fun _ _ _ => rfl) rf_10_5 ?_
  refine g_iconst dX1_copyFrom_73 ?_
  refine g_aload_n dX1_copyFrom_74 rfl ?_
  refine g_getR dX1_copyFrom_75 fl_X1_24 (shu_7 hu0) (alu_7 hun) (fun _ _ _ => rfl) (rfu_7_5 hu0) ?_
  refine g_iconst dX1_copyFrom_78 ?_
  refine g_bipush dX1_copyFrom_79 rfl ?_
  refine g_copy dX1_copyFrom_81 cw_X1_52 (Nat.le_of_ble_eq_true rfl) sh_15 (al_15 hn) (shu_12 hu0) (alu_12 hun) (Nat.le_of_ble_eq_true rfl) (Nat.le_of_ble_eq_true rfl) (by decide) ?_
  refine g_aload_n dX1_copyFrom_84 rfl ?_
  refine g_getR dX1_copyFrom_85 fl_X1_27 sh_10 (al_10 hn) (fun _ _ _ => rfl) rf_10_6 ?_
  refine g_iconst dX1_copyFrom_88 ?_
  refine g_aload_n dX1_copyFrom_89 rfl ?_
  refine g_getR dX1_copyFrom_90 fl_X1_27 (shu_7 hu0) (alu_7 hun) (fun _ _ _ => rfl) (rfu_7_6 hu0) ?_
  refine g_iconst dX1_copyFrom_93 ?_
  refine g_bipush dX1_copyFrom_94 rfl ?_
  refine g_copy dX1_copyFrom_96 cw_X1_52 (Nat.le_of_ble_eq_true rfl) sh_16 (al_16 hn) (shu_13 hu0) (alu_13 hun) (Nat.le_of_ble_eq_true rfl) (Nat.le_of_ble_eq_true rfl) (by decide) ?_
  refine g_aload_n dX1_copyFrom_99 rfl ?_
  refine g_aload_n dX1_copyFrom_100 rfl ?_
  refine g_getI (J := 7) dX1_copyFrom_101 fl_X1_49 sh_10 (al_10 hn) (fun _ _ _ => rfl) rfl ?_
  refine g_putI (J := 7) dX1_copyFrom_104 fl_X1_49 (shu_7 hu0) (alu_7 hun) rfl rfl ?_
  refine g_aload_n dX1_copyFrom_107 rfl ?_
  refine g_getR dX1_copyFrom_108 fl_X1_30 sh_10 (al_10 hn) (fun _ _ _ => rfl) rf_10_8 ?_
  refine g_iconst dX1_copyFrom_111 ?_
  refine g_aload_n dX1_copyFrom_112 rfl ?_
  refine g_getR dX1_copyFrom_113 fl_X1_30 (shu_7 hu0) (alu_7 hun) (fun _ _ _ => rfl) (rfu_7_8 hu0) ?_
  refine g_iconst dX1_copyFrom_116 ?_
  refine g_bipush dX1_copyFrom_117 rfl ?_
  refine g_copy dX1_copyFrom_119 cw_X1_52 (Nat.le_of_ble_eq_true rfl) sh_17 (al_17 hn) (shu_14 hu0) (alu_14 hun) (Nat.le_of_ble_eq_true rfl) (Nat.le_of_ble_eq_true rfl) (by decide) ?_
  refine g_aload_n dX1_copyFrom_122 rfl ?_
  refine g_getR dX1_copyFrom_123 fl_X1_33 sh_10 (al_10 hn) (fun _ _ _ => rfl) rf_10_9 ?_
  refine g_iconst dX1_copyFrom_126 ?_
  refine g_aload_n dX1_copyFrom_127 rfl ?_
  refine g_getR dX1_copyFrom_128 fl_X1_33 (shu_7 hu0) (alu_7 hun) (fun _ _ _ => rfl) (rfu_7_9 hu0) ?_
  refine g_iconst dX1_copyFrom_131 ?_
  refine g_bipush dX1_copyFrom_132 rfl ?_
  refine g_copy dX1_copyFrom_134 cw_X1_52 (Nat.le_of_ble_eq_true rfl) sh_18 (al_18 hn) (shu_15 hu0) (alu_15 hun) (Nat.le_of_ble_eq_true rfl) (Nat.le_of_ble_eq_true rfl) (by decide) ?_
  refine g_aload_n dX1_copyFrom_137 rfl ?_
  refine g_getR dX1_copyFrom_138 fl_X1_36 sh_10 (al_10 hn) (fun _ _ _ => rfl) rf_10_10 ?_
  refine g_iconst dX1_copyFrom_141 ?_
  refine g_aload_n dX1_copyFrom_142 rfl ?_
  refine g_getR dX1_copyFrom_143 fl_X1_36 (shu_7 hu0) (alu_7 hun) (fun _ _ _ => rfl) (rfu_7_10 hu0) ?_
  refine g_iconst dX1_copyFrom_146 ?_
  refine g_bipush dX1_copyFrom_147 rfl ?_
  refine g_copy dX1_copyFrom_149 cw_X1_52 (Nat.le_of_ble_eq_true rfl) sh_19 (al_19 hn) (shu_16 hu0) (alu_16 hun) (Nat.le_of_ble_eq_true rfl) (Nat.le_of_ble_eq_true rfl) (by decide) ?_
  refine g_aload_n dX1_copyFrom_152 rfl ?_
  refine g_getR dX1_copyFrom_153 fl_X1_39 sh_10 (al_10 hn) (fun _ _ _ => rfl) rf_10_11 ?_
  refine g_iconst dX1_copyFrom_156 ?_
  refine g_aload_n dX1_copyFrom_157 rfl ?_
  refine g_getR dX1_copyFrom_158 fl_X1_39 (shu_7 hu0) (alu_7 hun) (fun _ _ _ => rfl) (rfu_7_11 hu0) ?_
  refine g_iconst dX1_copyFrom_161 ?_
  refine g_bipush dX1_copyFrom_162 rfl ?_
  refine g_copy dX1_copyFrom_164 cw_X1_52 (Nat.le_of_ble_eq_true rfl) sh_20 (al_20 hn) (shu_17 hu0) (alu_17 hun) (Nat.le_of_ble_eq_true rfl) (Nat.le_of_ble_eq_true rfl) (by decide) ?_
  exact g_retV dX1_copyFrom_167 rfl w
theorem e_X1_has {l : Launch} {D : Nat} {ζ : ZP} {h : HI} {Q : Int → HI → Prop} {x1 : Int} (hn : 144 ≤ ζ.2.2.2.2) (w : (rg x1) ∧ (if x1 < 0 then (Q 0 h) else ((rg (h 10 0)) ∧ (if (h 10 0) ≤ x1 then (Q 0 h) else (Q 1 h))))) : RtI l (D + 1) mX1_has (zz ζ) [aP 10, aI x1] h Q := by
  refine RtI.of 0 pn_X1 [aP 10, aI x1] rfl rfl ?_
  refine g_iload_n dX1_has_0 rfl ?_
  obtain ⟨o1, w⟩ := w
  refine g_if_lt (tgt := 16) dX1_has_1 rfl o1 ?_
  refine ite_imp (fun w => ?_) (fun w => ?_) w
  · refine g_iconst dX1_has_16 ?_
    exact g_retZ dX1_has_17 rfl (Or.inl rfl) w
  · refine g_iload_n dX1_has_4 rfl ?_
    refine g_aload_n dX1_has_5 rfl ?_
    refine g_getI (J := 0) dX1_has_6 fl_X1_45 sh_10 (al_10 hn) (fun _ _ _ => rfl) rfl ?_
    obtain ⟨o2, w⟩ := w
    refine g_cmp_ge (tgt := 16) dX1_has_9 rfl o1 o2 ?_
    refine ite_imp (fun w => ?_) (fun w => ?_) w
    · refine g_iconst dX1_has_16 ?_
      exact g_retZ dX1_has_17 rfl (Or.inl rfl) w
    · refine g_iconst dX1_has_12 ?_
      refine g_goto (tgt := 17) dX1_has_13 rfl ?_
      exact g_retZ dX1_has_17 rfl (Or.inr rfl) w
theorem b_X1_make_9 {l : Launch} {D : Nat} {ζ : ZP} {h : HI} {Q : Int → HI → Prop} {x2 x3 x4 x5 x6 : Int} (hn : 144 ≤ ζ.2.2.2.2) (w : (rg x6) ∧ (rg x2) ∧ (if x2 ≤ x6 then ((0 ≤ x5 ∧ x5 < 10) ∧ Q x5 (hu (hu (hu (hu (hu h 13 x5 x2) 14 x5 x3) 15 x5 x4) 16 x5 x4) 10 0 ((h 10 0) + 1))) else ((0 ≤ x6 ∧ x6 < 60) ∧ (0 ≤ ((x5 * 40) + x6) ∧ ((x5 * 40) + x6) < 400) ∧ (0 ≤ (h 51 x6) ∧ (h 51 x6) < 60) ∧ G l (D + 1) 0 0 mX1_make (zz ζ) 9 [aP 10, aP 51, aI x2, aI x3, aI x4, aI x5, aI (x6 + 1)] [] (hu (hu h 12 ((x5 * 40) + x6) (h 51 x6)) 11 (h 51 x6) x5) (qI (zz ζ) Q)))) : G l (D + 1) 0 0 mX1_make (zz ζ) 9 [aP 10, aP 51, aI x2, aI x3, aI x4, aI x5, aI x6] [] h (qI (zz ζ) Q) := by
  refine g_iload dX1_make_9 rfl ?_
  refine g_iload_n dX1_make_11 rfl ?_
  obtain ⟨o1, w⟩ := w
  obtain ⟨o2, w⟩ := w
  refine g_cmp_ge (tgt := 49) dX1_make_12 rfl o1 o2 ?_
  refine ite_imp (fun w => ?_) (fun w => ?_) w
  · refine g_aload_n dX1_make_49 rfl ?_
    refine g_getR dX1_make_50 fl_X1_18 sh_10 (al_10 hn) (fun _ _ _ => rfl) rf_10_3 ?_
    refine g_iload dX1_make_53 rfl ?_
    refine g_iload_n dX1_make_55 rfl ?_
    obtain ⟨o3, w⟩ := w
    refine g_iast dX1_make_56 sh_13 (al_13 hn) (Nat.le_of_ble_eq_true rfl) o3 ?_
    refine g_aload_n dX1_make_57 rfl ?_
    refine g_getR dX1_make_58 fl_X1_21 sh_10 (al_10 hn) (fun _ _ _ => rfl) rf_10_4 ?_
    refine g_iload dX1_make_61 rfl ?_
    refine g_iload_n dX1_make_63 rfl ?_
    refine g_iast dX1_make_64 sh_14 (al_14 hn) (Nat.le_of_ble_eq_true rfl) o3 ?_
    refine g_aload_n dX1_make_65 rfl ?_
    refine g_getR dX1_make_66 fl_X1_24 sh_10 (al_10 hn) (fun _ _ _ => rfl) rf_10_5 ?_
    refine g_iload dX1_make_69 rfl ?_
    refine g_iload dX1_make_71 rfl ?_
    refine g_iast dX1_make_73 sh_15 (al_15 hn) (Nat.le_of_ble_eq_true rfl) o3 ?_
    refine g_aload_n dX1_make_74 rfl ?_
    refine g_getR dX1_make_75 fl_X1_27 sh_10 (al_10 hn) (fun _ _ _ => rfl) rf_10_6 ?_
    refine g_iload dX1_make_78 rfl ?_
    refine g_iload dX1_make_80 rfl ?_
    refine g_iast dX1_make_82 sh_16 (al_16 hn) (Nat.le_of_ble_eq_true rfl) o3 ?_
    refine g_aload_n dX1_make_83 rfl ?_
    refine g_dup dX1_make_84 rfl ?_
    refine g_getI (J := 0) dX1_make_85 fl_X1_45 sh_10 (al_10 hn) (fun _ _ _ => rfl) rfl ?_
    refine g_iconst dX1_make_88 ?_
    refine g_iadd dX1_make_89 ?_
    refine g_putI (J := 0) dX1_make_90 fl_X1_45 sh_10 (al_10 hn) rfl rfl ?_
    refine g_iload dX1_make_93 rfl ?_
    exact g_retI dX1_make_95 rfl w
  · refine g_aload_n dX1_make_15 rfl ?_
    refine g_getR dX1_make_16 fl_X1_15 sh_10 (al_10 hn) (fun _ _ _ => rfl) rf_10_2 ?_
    refine g_iload dX1_make_19 rfl ?_
    refine g_bipush dX1_make_21 rfl ?_
    refine g_imul dX1_make_23 ?_
    refine g_iload dX1_make_24 rfl ?_
    refine g_iadd dX1_make_26 ?_
    refine g_aload_n dX1_make_27 rfl ?_
    refine g_iload dX1_make_28 rfl ?_
    obtain ⟨o4, w⟩ := w
    refine g_iald dX1_make_30 sh_51 (al_51 hn) (Nat.le_of_ble_eq_true rfl) o4 ?_
    obtain ⟨o5, w⟩ := w
    refine g_iast dX1_make_31 sh_12 (al_12 hn) (Nat.le_of_ble_eq_true rfl) o5 ?_
    refine g_aload_n dX1_make_32 rfl ?_
    refine g_getR dX1_make_33 fl_X1_9 sh_10 (al_10 hn) (fun _ _ _ => rfl) rf_10_1 ?_
    refine g_aload_n dX1_make_36 rfl ?_
    refine g_iload dX1_make_37 rfl ?_
    refine g_iald dX1_make_39 sh_51 (al_51 hn) (Nat.le_of_ble_eq_true rfl) o4 ?_
    refine g_iload dX1_make_40 rfl ?_
    obtain ⟨o6, w⟩ := w
    refine g_iast dX1_make_42 sh_11 (al_11 hn) (Nat.le_of_ble_eq_true rfl) o6 ?_
    refine g_iinc (ls' := [aP 10, aP 51, aI x2, aI x3, aI x4, aI x5, aI (x6 + 1)]) dX1_make_43 rfl (Nat.le_of_ble_eq_true rfl) rfl rfl ?_
    refine g_goto (tgt := 9) dX1_make_46 rfl ?_
    exact g_sub (ls' := [aP 10, aP 51, aI x2, aI x3, aI x4, aI x5, aI (x6 + 1)]) ⟨Or.inr rfl, Or.inr rfl, Or.inr rfl, Or.inr rfl, Or.inr rfl, Or.inr rfl, Or.inr rfl, trivial⟩ w
theorem e_X1_make {l : Launch} {D : Nat} {ζ : ZP} {h : HI} {Q : Int → HI → Prop} {x2 x3 x4 : Int} (hn : 144 ≤ ζ.2.2.2.2) (w : G l (D + 1) 0 0 mX1_make (zz ζ) 9 [aP 10, aP 51, aI x2, aI x3, aI x4, aI (h 10 0), aI 0] [] h (qI (zz ζ) Q)) : RtI l (D + 1) mX1_make (zz ζ) [aP 10, aP 51, aI x2, aI x3, aI x4] h Q := by
  refine RtI.of 2 pn_X1 [aP 10, aP 51, aI x2, aI x3, aI x4, aU, aU] rfl rfl ?_
  refine g_aload_n dX1_make_0 rfl ?_
  refine g_getI (J := 0) dX1_make_1 fl_X1_45 sh_10 (al_10 hn) (fun _ _ _ => rfl) rfl ?_
  refine g_istore (ls' := [aP 10, aP 51, aI x2, aI x3, aI x4, aI (h 10 0), aU]) dX1_make_4 (Nat.le_of_ble_eq_true rfl) rfl rfl ?_
  refine g_iconst dX1_make_6 ?_
  refine g_istore (ls' := [aP 10, aP 51, aI x2, aI x3, aI x4, aI (h 10 0), aI 0]) dX1_make_7 (Nat.le_of_ble_eq_true rfl) rfl rfl ?_
  exact g_sub (ls' := [aP 10, aP 51, aI x2, aI x3, aI x4, aI (h 10 0), aI 0]) ⟨Or.inr rfl, Or.inr rfl, Or.inr rfl, Or.inr rfl, Or.inr rfl, Or.inr rfl, Or.inr rfl, trivial⟩ w
theorem e_X1_exchange {l : Launch} {D : Nat} {ζ : ZP} {h : HI} {Q : Int → HI → Prop} {x1 x2 x3 x4 : Int} (hn : 144 ≤ ζ.2.2.2.2) (w : RtI l D mX1_placeOf (zz ζ) [aP 10, aI x1, aI x2] h (fun r1 h1 => (rg r1) ∧ (if r1 = (-1) then (Q 0 h1) else ((rg (h1 10 7)) ∧ (if (h1 10 7) < 30 then ((0 ≤ (h1 10 7) ∧ (h1 10 7) < 30) ∧ (0 ≤ ((x1 * 40) + r1) ∧ ((x1 * 40) + r1) < 400) ∧ (0 ≤ x2 ∧ x2 < 60) ∧ (0 ≤ x3 ∧ x3 < 60) ∧ (0 ≤ x1 ∧ x1 < 10) ∧ Q 1 (hu (hu (hu (hu (hu (hu (hu (hu (hu h1 17 (h1 10 7) x1) 18 (h1 10 7) r1) 19 (h1 10 7) x2) 20 (h1 10 7) x4) 10 7 ((h1 10 7) + 1)) 12 ((x1 * 40) + r1) x3) 11 x2 (-1)) 11 x3 x1) 16 x1 x4)) else (Q 0 h1)))))) : RtI l (D + 1) mX1_exchange (zz ζ) [aP 10, aI x1, aI x2, aI x3, aI x4] h Q := by
  refine RtI.of 1 pn_X1 [aP 10, aI x1, aI x2, aI x3, aI x4, aU] rfl rfl ?_
  refine g_aload_n dX1_exchange_0 rfl ?_
  refine g_iload_n dX1_exchange_1 rfl ?_
  refine g_iload_n dX1_exchange_2 rfl ?_
  refine g_callVI (n := 2) (As := [aI x1, aI x2]) (st := []) dX1_exchange_3 ml_X1_58 sh_10 rfl (al_10 hn) rfl rfl (Nat.le_of_ble_eq_true rfl) (RtI.mono w (fun r1 h1 w => ?_))
  refine g_istore (ls' := [aP 10, aI x1, aI x2, aI x3, aI x4, aI r1]) dX1_exchange_6 (Nat.le_of_ble_eq_true rfl) rfl rfl ?_
  refine g_iload dX1_exchange_8 rfl ?_
  refine g_iconst dX1_exchange_10 ?_
  obtain ⟨o1, w⟩ := w
  refine g_cmp_eq (tgt := 23) dX1_exchange_11 rfl o1 (by decide) ?_
  refine ite_imp (fun w => ?_) (fun w => ?_) w
  · refine g_iconst dX1_exchange_23 ?_
    exact g_retZ dX1_exchange_24 rfl (Or.inl rfl) w
  · refine g_aload_n dX1_exchange_14 rfl ?_
    refine g_getI (J := 7) dX1_exchange_15 fl_X1_49 sh_10 (al_10 hn) (fun _ _ _ => rfl) rfl ?_
    refine g_bipush dX1_exchange_18 rfl ?_
    obtain ⟨o2, w⟩ := w
    refine g_cmp_lt (tgt := 25) dX1_exchange_20 rfl o2 (by decide) ?_
    refine ite_imp (fun w => ?_) (fun w => ?_) w
    · refine g_aload_n dX1_exchange_25 rfl ?_
      refine g_getR dX1_exchange_26 fl_X1_30 sh_10 (al_10 hn) (fun _ _ _ => rfl) rf_10_8 ?_
      refine g_aload_n dX1_exchange_29 rfl ?_
      refine g_getI (J := 7) dX1_exchange_30 fl_X1_49 sh_10 (al_10 hn) (fun _ _ _ => rfl) rfl ?_
      refine g_iload_n dX1_exchange_33 rfl ?_
      obtain ⟨o3, w⟩ := w
      refine g_iast dX1_exchange_34 sh_17 (al_17 hn) (Nat.le_of_ble_eq_true rfl) o3 ?_
      refine g_aload_n dX1_exchange_35 rfl ?_
      refine g_getR dX1_exchange_36 fl_X1_33 sh_10 (al_10 hn) (fun _ _ _ => rfl) rf_10_9 ?_
      refine g_aload_n dX1_exchange_39 rfl ?_
      refine g_getI (J := 7) dX1_exchange_40 fl_X1_49 sh_10 (al_10 hn) (fun _ _ _ => rfl) rfl ?_
      refine g_iload dX1_exchange_43 rfl ?_
      refine g_iast dX1_exchange_45 sh_18 (al_18 hn) (Nat.le_of_ble_eq_true rfl) o3 ?_
      refine g_aload_n dX1_exchange_46 rfl ?_
      refine g_getR dX1_exchange_47 fl_X1_36 sh_10 (al_10 hn) (fun _ _ _ => rfl) rf_10_10 ?_
      refine g_aload_n dX1_exchange_50 rfl ?_
      refine g_getI (J := 7) dX1_exchange_51 fl_X1_49 sh_10 (al_10 hn) (fun _ _ _ => rfl) rfl ?_
      refine g_iload_n dX1_exchange_54 rfl ?_
      refine g_iast dX1_exchange_55 sh_19 (al_19 hn) (Nat.le_of_ble_eq_true rfl) o3 ?_
      refine g_aload_n dX1_exchange_56 rfl ?_
      refine g_getR dX1_exchange_57 fl_X1_39 sh_10 (al_10 hn) (fun _ _ _ => rfl) rf_10_11 ?_
      refine g_aload_n dX1_exchange_60 rfl ?_
      refine g_getI (J := 7) dX1_exchange_61 fl_X1_49 sh_10 (al_10 hn) (fun _ _ _ => rfl) rfl ?_
      refine g_iload dX1_exchange_64 rfl ?_
      refine g_iast dX1_exchange_66 sh_20 (al_20 hn) (Nat.le_of_ble_eq_true rfl) o3 ?_
      refine g_aload_n dX1_exchange_67 rfl ?_
      refine g_dup dX1_exchange_68 rfl ?_
      refine g_getI (J := 7) dX1_exchange_69 fl_X1_49 sh_10 (al_10 hn) (fun _ _ _ => rfl) rfl ?_
      refine g_iconst dX1_exchange_72 ?_
      refine g_iadd dX1_exchange_73 ?_
      refine g_putI (J := 7) dX1_exchange_74 fl_X1_49 sh_10 (al_10 hn) rfl rfl ?_
      refine g_aload_n dX1_exchange_77 rfl ?_
      refine g_getR dX1_exchange_78 fl_X1_15 sh_10 (al_10 hn) (fun _ _ _ => rfl) rf_10_2 ?_
      refine g_iload_n dX1_exchange_81 rfl ?_
      refine g_bipush dX1_exchange_82 rfl ?_
      refine g_imul dX1_exchange_84 ?_
      refine g_iload dX1_exchange_85 rfl ?_
      refine g_iadd dX1_exchange_87 ?_
      refine g_iload_n dX1_exchange_88 rfl ?_
      obtain ⟨o4, w⟩ := w
      refine g_iast dX1_exchange_89 sh_12 (al_12 hn) (Nat.le_of_ble_eq_true rfl) o4 ?_
      refine g_aload_n dX1_exchange_90 rfl ?_
      refine g_getR dX1_exchange_91 fl_X1_9 sh_10 (al_10 hn) (fun _ _ _ => rfl) rf_10_1 ?_
      refine g_iload_n dX1_exchange_94 rfl ?_
      refine g_iconst dX1_exchange_95 ?_
      obtain ⟨o5, w⟩ := w
      refine g_iast dX1_exchange_96 sh_11 (al_11 hn) (Nat.le_of_ble_eq_true rfl) o5 ?_
      refine g_aload_n dX1_exchange_97 rfl ?_
      refine g_getR dX1_exchange_98 fl_X1_9 sh_10 (al_10 hn) (fun _ _ _ => rfl) rf_10_1 ?_
      refine g_iload_n dX1_exchange_101 rfl ?_
      refine g_iload_n dX1_exchange_102 rfl ?_
      obtain ⟨o6, w⟩ := w
      refine g_iast dX1_exchange_103 sh_11 (al_11 hn) (Nat.le_of_ble_eq_true rfl) o6 ?_
      refine g_aload_n dX1_exchange_104 rfl ?_
      refine g_getR dX1_exchange_105 fl_X1_27 sh_10 (al_10 hn) (fun _ _ _ => rfl) rf_10_6 ?_
      refine g_iload_n dX1_exchange_108 rfl ?_
      refine g_iload dX1_exchange_109 rfl ?_
      obtain ⟨o7, w⟩ := w
      refine g_iast dX1_exchange_111 sh_16 (al_16 hn) (Nat.le_of_ble_eq_true rfl) o7 ?_
      refine g_iconst dX1_exchange_112 ?_
      exact g_retZ dX1_exchange_113 rfl (Or.inr rfl) w
    · refine g_iconst dX1_exchange_23 ?_
      exact g_retZ dX1_exchange_24 rfl (Or.inl rfl) w
theorem e_X1_cellAt {l : Launch} {D : Nat} {ζ : ZP} {h : HI} {Q : Int → HI → Prop} {x1 x2 : Int} (hn : 144 ≤ ζ.2.2.2.2) (w : (0 ≤ ((x1 * 40) + x2) ∧ ((x1 * 40) + x2) < 400) ∧ Q (h 12 ((x1 * 40) + x2)) h) : RtI l (D + 1) mX1_cellAt (zz ζ) [aP 10, aI x1, aI x2] h Q := by
  refine RtI.of 0 pn_X1 [aP 10, aI x1, aI x2] rfl rfl ?_
  refine g_aload_n dX1_cellAt_0 rfl ?_
  refine g_getR dX1_cellAt_1 fl_X1_15 sh_10 (al_10 hn) (fun _ _ _ => rfl) rf_10_2 ?_
  refine g_iload_n dX1_cellAt_4 rfl ?_
  refine g_bipush dX1_cellAt_5 rfl ?_
  refine g_imul dX1_cellAt_7 ?_
  refine g_iload_n dX1_cellAt_8 rfl ?_
  refine g_iadd dX1_cellAt_9 ?_
  obtain ⟨o1, w⟩ := w
  refine g_iald dX1_cellAt_10 sh_12 (al_12 hn) (Nat.le_of_ble_eq_true rfl) o1 ?_
  exact g_retI dX1_cellAt_11 rfl w
theorem b_X1_placeOf_2 {l : Launch} {D : Nat} {ζ : ZP} {h : HI} {Q : Int → HI → Prop} {x1 x2 x3 : Int} (hn : 144 ≤ ζ.2.2.2.2) (w : (0 ≤ x1 ∧ x1 < 10) ∧ (rg x3) ∧ (rg (h 13 x1)) ∧ (if (h 13 x1) ≤ x3 then (Q (-1) h) else (RtI l D mX1_cellAt (zz ζ) [aP 10, aI x1, aI x3] h (fun r1 h1 => (rg r1) ∧ (rg x2) ∧ (if ¬ r1 = x2 then (G l (D + 1) 0 0 mX1_placeOf (zz ζ) 2 [aP 10, aI x1, aI x2, aI (x3 + 1)] [] h1 (qI (zz ζ) Q)) else (Q x3 h1)))))) : G l (D + 1) 0 0 mX1_placeOf (zz ζ) 2 [aP 10, aI x1, aI x2, aI x3] [] h (qI (zz ζ) Q) := by
  refine g_iload_n dX1_placeOf_2 rfl ?_
  refine g_aload_n dX1_placeOf_3 rfl ?_
  refine g_getR dX1_placeOf_4 fl_X1_18 sh_10 (al_10 hn) (fun _ _ _ => rfl) rf_10_3 ?_
  refine g_iload_n dX1_placeOf_7 rfl ?_
  obtain ⟨o1, w⟩ := w
  refine g_iald dX1_placeOf_8 sh_13 (al_13 hn) (Nat.le_of_ble_eq_true rfl) o1 ?_
  obtain ⟨o2, w⟩ := w
  obtain ⟨o3, w⟩ := w
  refine g_cmp_ge (tgt := 30) dX1_placeOf_9 rfl o2 o3 ?_
  refine ite_imp (fun w => ?_) (fun w => ?_) w
  · refine g_iconst dX1_placeOf_30 ?_
    exact g_retI dX1_placeOf_31 rfl w
  · refine g_aload_n dX1_placeOf_12 rfl ?_
    refine g_iload_n dX1_placeOf_13 rfl ?_
    refine g_iload_n dX1_placeOf_14 rfl ?_
    refine g_callVI (n := 2) (As := [aI x1, aI x3]) (st := []) dX1_placeOf_15 ml_X1_62 sh_10 rfl (al_10 hn) rfl rfl (Nat.le_of_ble_eq_true rfl) (RtI.mono w (fun r1 h1 w => ?_))
    refine g_iload_n dX1_placeOf_18 rfl ?_
    obtain ⟨o4, w⟩ := w
    obtain ⟨o5, w⟩ := w
    refine g_cmp_ne (tgt := 24) dX1_placeOf_19 rfl o4 o5 ?_
    refine ite_imp (fun w => ?_) (fun w => ?_) w
    · refine g_iinc (ls' := [aP 10, aI x1, aI x2, aI (x3 + 1)]) dX1_placeOf_24 rfl (Nat.le_of_ble_eq_true rfl) rfl rfl ?_
      refine g_goto (tgt := 2) dX1_placeOf_27 rfl ?_
      exact g_sub (ls' := [aP 10, aI x1, aI x2, aI (x3 + 1)]) ⟨Or.inr rfl, Or.inr rfl, Or.inr rfl, Or.inr rfl, trivial⟩ w
    · refine g_iload_n dX1_placeOf_22 rfl ?_
      exact g_retI dX1_placeOf_23 rfl w
theorem e_X1_placeOf {l : Launch} {D : Nat} {ζ : ZP} {h : HI} {Q : Int → HI → Prop} {x1 x2 : Int} (hn : 144 ≤ ζ.2.2.2.2) (w : G l (D + 1) 0 0 mX1_placeOf (zz ζ) 2 [aP 10, aI x1, aI x2, aI 0] [] h (qI (zz ζ) Q)) : RtI l (D + 1) mX1_placeOf (zz ζ) [aP 10, aI x1, aI x2] h Q := by
  refine RtI.of 1 pn_X1 [aP 10, aI x1, aI x2, aU] rfl rfl ?_
  refine g_iconst dX1_placeOf_0 ?_
  refine g_istore_n (ls' := [aP 10, aI x1, aI x2, aI 0]) dX1_placeOf_1 (Nat.le_of_ble_eq_true rfl) rfl rfl ?_
  exact g_sub (ls' := [aP 10, aI x1, aI x2, aI 0]) ⟨Or.inr rfl, Or.inr rfl, Or.inr rfl, Or.inr rfl, trivial⟩ w
theorem e_X1_rowSize {l : Launch} {D : Nat} {ζ : ZP} {h : HI} {Q : Int → HI → Prop} {x1 : Int} (hn : 144 ≤ ζ.2.2.2.2) (w : (0 ≤ x1 ∧ x1 < 10) ∧ RtI l D mX11_cut (zz ζ) [aI (h 13 x1), aI (h 14 x1)] h (fun r1 h1 => Q r1 h1)) : RtI l (D + 1) mX1_rowSize (zz ζ) [aP 10, aI x1] h Q := by
  refine RtI.of 0 pn_X1 [aP 10, aI x1] rfl rfl ?_
  refine g_aload_n dX1_rowSize_0 rfl ?_
  refine g_getR dX1_rowSize_1 fl_X1_18 sh_10 (al_10 hn) (fun _ _ _ => rfl) rf_10_3 ?_
  refine g_iload_n dX1_rowSize_4 rfl ?_
  obtain ⟨o1, w⟩ := w
  refine g_iald dX1_rowSize_5 sh_13 (al_13 hn) (Nat.le_of_ble_eq_true rfl) o1 ?_
  refine g_aload_n dX1_rowSize_6 rfl ?_
  refine g_getR dX1_rowSize_7 fl_X1_21 sh_10 (al_10 hn) (fun _ _ _ => rfl) rf_10_4 ?_
  refine g_iload_n dX1_rowSize_10 rfl ?_
  refine g_iald dX1_rowSize_11 sh_14 (al_14 hn) (Nat.le_of_ble_eq_true rfl) o1 ?_
  refine g_callSNI (n := 2) (As := [aI (h 13 x1), aI (h 14 x1)]) (st := []) dX1_rowSize_12 ml_X1_65 rfl rfl (Nat.le_of_ble_eq_true rfl) (RtI.mono w (fun r1 h1 w => ?_))
  exact g_retI dX1_rowSize_15 rfl w
theorem b_X1_holdOf_13 {l : Launch} {D : Nat} {ζ : ZP} {h : HI} {Q : Int → HI → Prop} {x1 x2 x4 x5 x6 : Int} (hn : 144 ≤ ζ.2.2.2.2) (w : (rg x6) ∧ (rg x4) ∧ (if x4 ≤ x6 then (Q x5 h) else (RtI l D mX1_cellAt (zz ζ) [aP 10, aI x1, aI ((x2 * x4) + x6)] h (fun r1 h1 => (0 ≤ r1 ∧ r1 < 60) ∧ G l (D + 1) 0 0 mX1_holdOf (zz ζ) 13 [aP 10, aI x1, aI x2, aP 40, aI x4, aI (x5 + (h1 44 r1)), aI (x6 + 1)] [] h1 (qI (zz ζ) Q))))) : G l (D + 1) 0 0 mX1_holdOf (zz ζ) 13 [aP 10, aI x1, aI x2, aP 40, aI x4, aI x5, aI x6] [] h (qI (zz ζ) Q) := by
  refine g_iload dX1_holdOf_13 rfl ?_
  refine g_iload dX1_holdOf_15 rfl ?_
  obtain ⟨o1, w⟩ := w
  obtain ⟨o2, w⟩ := w
  refine g_cmp_ge (tgt := 48) dX1_holdOf_17 rfl o1 o2 ?_
  refine ite_imp (fun w => ?_) (fun w => ?_) w
  · refine g_iload dX1_holdOf_48 rfl ?_
    exact g_retI dX1_holdOf_50 rfl w
  · refine g_iload dX1_holdOf_20 rfl ?_
    refine g_aload_n dX1_holdOf_22 rfl ?_
    refine g_getR dX1_holdOf_23 fl_X1_72 sh_40 (al_40 hn) (fun _ _ _ => rfl) rf_40_4 ?_
    refine g_aload_n dX1_holdOf_26 rfl ?_
    refine g_iload_n dX1_holdOf_27 rfl ?_
    refine g_iload_n dX1_holdOf_28 rfl ?_
    refine g_iload dX1_holdOf_29 rfl ?_
    refine g_imul dX1_holdOf_31 ?_
    refine g_iload dX1_holdOf_32 rfl ?_
    refine g_iadd dX1_holdOf_34 ?_
    refine g_callVI (n := 2) (As := [aI x1, aI ((x2 * x4) + x6)]) (st := [aP 44, aI x5]) dX1_holdOf_35 ml_X1_62 sh_10 rfl (al_10 hn) rfl rfl (Nat.le_of_ble_eq_true rfl) (RtI.mono w (fun r1 h1 w => ?_))
    obtain ⟨o3, w⟩ := w
    refine g_iald dX1_holdOf_38 sh_44 (al_44 hn) (Nat.le_of_ble_eq_true rfl) o3 ?_
    refine g_iadd dX1_holdOf_39 ?_
    refine g_istore (ls' := [aP 10, aI x1, aI x2, aP 40, aI x4, aI (x5 + (h1 44 r1)), aI x6]) dX1_holdOf_40 (Nat.le_of_ble_eq_true rfl) rfl rfl ?_
    refine g_iinc (ls' := [aP 10, aI x1, aI x2, aP 40, aI x4, aI (x5 + (h1 44 r1)), aI (x6 + 1)]) dX1_holdOf_42 rfl (Nat.le_of_ble_eq_true rfl) rfl rfl ?_
    refine g_goto (tgt := 13) dX1_holdOf_45 rfl ?_
    exact g_sub (ls' := [aP 10, aI x1, aI x2, aP 40, aI x4, aI (x5 + (h1 44 r1)), aI (x6 + 1)]) ⟨Or.inr rfl, Or.inr rfl, Or.inr rfl, Or.inr rfl, Or.inr rfl, Or.inr rfl, Or.inr rfl, trivial⟩ w
theorem e_X1_holdOf {l : Launch} {D : Nat} {ζ : ZP} {h : HI} {Q : Int → HI → Prop} {x1 x2 : Int} (hn : 144 ≤ ζ.2.2.2.2) (w : RtI l D mX1_rowSize (zz ζ) [aP 10, aI x1] h (fun r1 h1 => G l (D + 1) 0 0 mX1_holdOf (zz ζ) 13 [aP 10, aI x1, aI x2, aP 40, aI r1, aI 0, aI 0] [] h1 (qI (zz ζ) Q))) : RtI l (D + 1) mX1_holdOf (zz ζ) [aP 10, aI x1, aI x2, aP 40] h Q := by
  refine RtI.of 3 pn_X1 [aP 10, aI x1, aI x2, aP 40, aU, aU, aU] rfl rfl ?_
  refine g_aload_n dX1_holdOf_0 rfl ?_
  refine g_iload_n dX1_holdOf_1 rfl ?_
  refine g_callVI (n := 1) (As := [aI x1]) (st := []) dX1_holdOf_2 ml_X1_68 sh_10 rfl (al_10 hn) rfl rfl (Nat.le_of_ble_eq_true rfl) (RtI.mono w (fun r1 h1 w => ?_))
  refine g_istore (ls' := [aP 10, aI x1, aI x2, aP 40, aI r1, aU, aU]) dX1_holdOf_5 (Nat.le_of_ble_eq_true rfl) rfl rfl ?_
  refine g_iconst dX1_holdOf_7 ?_
  refine g_istore (ls' := [aP 10, aI x1, aI x2, aP 40, aI r1, aI 0, aU]) dX1_holdOf_8 (Nat.le_of_ble_eq_true rfl) rfl rfl ?_
  refine g_iconst dX1_holdOf_10 ?_
  refine g_istore (ls' := [aP 10, aI x1, aI x2, aP 40, aI r1, aI 0, aI 0]) dX1_holdOf_11 (Nat.le_of_ble_eq_true rfl) rfl rfl ?_
  exact g_sub (ls' := [aP 10, aI x1, aI x2, aP 40, aI r1, aI 0, aI 0]) ⟨Or.inr rfl, Or.inr rfl, Or.inr rfl, Or.inr rfl, Or.inr rfl, Or.inr rfl, Or.inr rfl, trivial⟩ w
theorem b_X1_flowOf_13 {l : Launch} {D : Nat} {ζ : ZP} {h : HI} {Q : Int → HI → Prop} {x1 x2 x4 x5 x6 : Int} (hn : 144 ≤ ζ.2.2.2.2) (w : (rg x6) ∧ (rg x4) ∧ (if x4 ≤ x6 then (Q x5 h) else (RtI l D mX1_cellAt (zz ζ) [aP 10, aI x1, aI ((x2 * x4) + x6)] h (fun r1 h1 => RtI l D mX8_flowOf (zz ζ) [aP 40, aI r1] h1 (fun r2 h2 => G l (D + 1) 0 0 mX1_flowOf (zz ζ) 13 [aP 10, aI x1, aI x2, aP 40, aI x4, aI (x5 + r2), aI (x6 + 1)] [] h2 (qI (zz ζ) Q)))))) : G l (D + 1) 0 0 mX1_flowOf (zz ζ) 13 [aP 10, aI x1, aI x2, aP 40, aI x4, aI x5, aI x6] [] h (qI (zz ζ) Q) := by
  refine g_iload dX1_flowOf_13 rfl ?_
  refine g_iload dX1_flowOf_15 rfl ?_
  obtain ⟨o1, w⟩ := w
  obtain ⟨o2, w⟩ := w
  refine g_cmp_ge (tgt := 47) dX1_flowOf_17 rfl o1 o2 ?_
  refine ite_imp (fun w => ?_) (fun w => ?_) w
  · refine g_iload dX1_flowOf_47 rfl ?_
    exact g_retI dX1_flowOf_49 rfl w
  · refine g_iload dX1_flowOf_20 rfl ?_
    refine g_aload_n dX1_flowOf_22 rfl ?_
    refine g_aload_n dX1_flowOf_23 rfl ?_
    refine g_iload_n dX1_flowOf_24 rfl ?_
    refine g_iload_n dX1_flowOf_25 rfl ?_
    refine g_iload dX1_flowOf_26 rfl ?_
    refine g_imul dX1_flowOf_28 ?_
    refine g_iload dX1_flowOf_29 rfl ?_
    refine g_iadd dX1_flowOf_31 ?_
    refine g_callVI (n := 2) (As := [aI x1, aI ((x2 * x4) + x6)]) (st := [aP 40, aI x5]) dX1_flowOf_32 ml_X1_62 sh_10 rfl (al_10 hn) rfl rfl (Nat.le_of_ble_eq_true rfl) (RtI.mono w (fun r1 h1 w => ?_))
    refine g_callVI (n := 1) (As := [aI r1]) (st := [aI x5]) dX1_flowOf_35 ml_X1_77 sh_40 rfl (al_40 hn) rfl rfl (Nat.le_of_ble_eq_true rfl) (RtI.mono w (fun r2 h2 w => ?_))
    refine g_iadd dX1_flowOf_38 ?_
    refine g_istore (ls' := [aP 10, aI x1, aI x2, aP 40, aI x4, aI (x5 + r2), aI x6]) dX1_flowOf_39 (Nat.le_of_ble_eq_true rfl) rfl rfl ?_
    refine g_iinc (ls' := [aP 10, aI x1, aI x2, aP 40, aI x4, aI (x5 + r2), aI (x6 + 1)]) dX1_flowOf_41 rfl (Nat.le_of_ble_eq_true rfl) rfl rfl ?_
    refine g_goto (tgt := 13) dX1_flowOf_44 rfl ?_
    exact g_sub (ls' := [aP 10, aI x1, aI x2, aP 40, aI x4, aI (x5 + r2), aI (x6 + 1)]) ⟨Or.inr rfl, Or.inr rfl, Or.inr rfl, Or.inr rfl, Or.inr rfl, Or.inr rfl, Or.inr rfl, trivial⟩ w
theorem e_X1_flowOf {l : Launch} {D : Nat} {ζ : ZP} {h : HI} {Q : Int → HI → Prop} {x1 x2 : Int} (hn : 144 ≤ ζ.2.2.2.2) (w : RtI l D mX1_rowSize (zz ζ) [aP 10, aI x1] h (fun r1 h1 => G l (D + 1) 0 0 mX1_flowOf (zz ζ) 13 [aP 10, aI x1, aI x2, aP 40, aI r1, aI 0, aI 0] [] h1 (qI (zz ζ) Q))) : RtI l (D + 1) mX1_flowOf (zz ζ) [aP 10, aI x1, aI x2, aP 40] h Q := by
  refine RtI.of 3 pn_X1 [aP 10, aI x1, aI x2, aP 40, aU, aU, aU] rfl rfl ?_
  refine g_aload_n dX1_flowOf_0 rfl ?_
  refine g_iload_n dX1_flowOf_1 rfl ?_
  refine g_callVI (n := 1) (As := [aI x1]) (st := []) dX1_flowOf_2 ml_X1_68 sh_10 rfl (al_10 hn) rfl rfl (Nat.le_of_ble_eq_true rfl) (RtI.mono w (fun r1 h1 w => ?_))
  refine g_istore (ls' := [aP 10, aI x1, aI x2, aP 40, aI r1, aU, aU]) dX1_flowOf_5 (Nat.le_of_ble_eq_true rfl) rfl rfl ?_
  refine g_iconst dX1_flowOf_7 ?_
  refine g_istore (ls' := [aP 10, aI x1, aI x2, aP 40, aI r1, aI 0, aU]) dX1_flowOf_8 (Nat.le_of_ble_eq_true rfl) rfl rfl ?_
  refine g_iconst dX1_flowOf_10 ?_
  refine g_istore (ls' := [aP 10, aI x1, aI x2, aP 40, aI r1, aI 0, aI 0]) dX1_flowOf_11 (Nat.le_of_ble_eq_true rfl) rfl rfl ?_
  exact g_sub (ls' := [aP 10, aI x1, aI x2, aP 40, aI r1, aI 0, aI 0]) ⟨Or.inr rfl, Or.inr rfl, Or.inr rfl, Or.inr rfl, Or.inr rfl, Or.inr rfl, Or.inr rfl, trivial⟩ w
theorem e_X1_cyclesOf {l : Launch} {D : Nat} {ζ : ZP} {h : HI} {Q : Int → HI → Prop} {x1 x2 : Int} (hn : 144 ≤ ζ.2.2.2.2) (w : RtI l D mX1_holdOf (zz ζ) [aP 10, aI x1, aI x2, aP 40] h (fun r1 h1 => RtI l D mX1_flowOf (zz ζ) [aP 10, aI x1, aI x2, aP 40] h1 (fun r2 h2 => RtI l D mX1_cyclesBy (zz ζ) [aI r1, aI r2, aP 4] h2 (fun r3 h3 => Q r3 h3)))) : RtI l (D + 1) mX1_cyclesOf (zz ζ) [aP 10, aI x1, aI x2, aP 40, aP 4] h Q := by
  refine RtI.of 0 pn_X1 [aP 10, aI x1, aI x2, aP 40, aP 4] rfl rfl ?_
  refine g_aload_n dX1_cyclesOf_0 rfl ?_
  refine g_iload_n dX1_cyclesOf_1 rfl ?_
  refine g_iload_n dX1_cyclesOf_2 rfl ?_
  refine g_aload_n dX1_cyclesOf_3 rfl ?_
  refine g_callVI (n := 3) (As := [aI x1, aI x2, aP 40]) (st := []) dX1_cyclesOf_4 ml_X1_80 sh_10 rfl (al_10 hn) rfl rfl (Nat.le_of_ble_eq_true rfl) (RtI.mono w (fun r1 h1 w => ?_))
  refine g_aload_n dX1_cyclesOf_7 rfl ?_
  refine g_iload_n dX1_cyclesOf_8 rfl ?_
  refine g_iload_n dX1_cyclesOf_9 rfl ?_
  refine g_aload_n dX1_cyclesOf_10 rfl ?_
  refine g_callVI (n := 3) (As := [aI x1, aI x2, aP 40]) (st := [aI r1]) dX1_cyclesOf_11 ml_X1_84 sh_10 rfl (al_10 hn) rfl rfl (Nat.le_of_ble_eq_true rfl) (RtI.mono w (fun r2 h2 w => ?_))
  refine g_aload dX1_cyclesOf_14 rfl ?_
  refine g_callSI (n := 3) (As := [aI r1, aI r2, aP 4]) (st := []) dX1_cyclesOf_16 ml_X1_86 rfl rfl (Nat.le_of_ble_eq_true rfl) rfl (RtI.mono w (fun r3 h3 w => ?_))
  exact g_retI dX1_cyclesOf_19 rfl w
theorem e_X1_cyclesBy {l : Launch} {D : Nat} {ζ : ZP} {h : HI} {Q : Int → HI → Prop} {x0 x1 : Int} (hn : 144 ≤ ζ.2.2.2.2) (w : (rg (h 7 0)) ∧ (rg (h 7 1)) ∧ RtI l D mX11_cut (zz ζ) [aI 1000000, aI x1] h (fun r1 h1 => (rg r1) ∧ (rl ((h 7 1) * r1)) ∧ (rg (x0 - (h1 7 2))) ∧ (rl ((x0 - (h1 7 2)) * 1000000)) ∧ (if 0 ≤ ((x0 - (h1 7 2)) * 1000000) then ((rg x0) ∧ (rl (x0 * ((10 * (h 7 0)) + (((h 7 1) * r1).tdiv 10)))) ∧ (if 0 < (x0 * ((10 * (h 7 0)) + (((h 7 1) * r1).tdiv 10))) then (((x0 * ((10 * (h 7 0)) + (((h 7 1) * r1).tdiv 10))) ≠ 0) ∧ (rl ((((x0 - (h1 7 2)) * 1000000).tdiv (x0 * ((10 * (h 7 0)) + (((h 7 1) * r1).tdiv 10)))) + 1)) ∧ (if 100000 ≤ ((((x0 - (h1 7 2)) * 1000000).tdiv (x0 * ((10 * (h 7 0)) + (((h 7 1) * r1).tdiv 10)))) + 1) then (Q 100000 h1) else (Q ((((x0 - (h1 7 2)) * 1000000).tdiv (x0 * ((10 * (h 7 0)) + (((h 7 1) * r1).tdiv 10)))) + 1) h1))) else (Q 100000 h1))) else (Q 0 h1)))) : RtI l (D + 1) mX1_cyclesBy (zz ζ) [aI x0, aI x1, aP 4] h Q := by
  refine RtI.of 8 pn_X1 [aI x0, aI x1, aP 4, aU, aU, aU, aU, aU, aU, aU, aU] rfl rfl ?_
  refine g_ldc2 (n := 10) dX1_cyclesBy_0 kl_X1_90 rfl ?_
  refine g_aload_n dX1_cyclesBy_3 rfl ?_
  refine g_getR dX1_cyclesBy_4 fl_X1_92 sh_4 (al_4 hn) (fun _ _ _ => rfl) rf_4_2 ?_
  refine g_iconst dX1_cyclesBy_7 ?_
  refine g_iald dX1_cyclesBy_8 sh_7 (al_7 hn) (Nat.le_of_ble_eq_true rfl) (by decide) ?_
  obtain ⟨o1, w⟩ := w
  refine g_i2l dX1_cyclesBy_9 o1 ?_
  refine g_lmul dX1_cyclesBy_10 ?_
  refine g_aload_n dX1_cyclesBy_11 rfl ?_
  refine g_getR dX1_cyclesBy_12 fl_X1_92 sh_4 (al_4 hn) (fun _ _ _ => rfl) rf_4_2 ?_
  refine g_iconst dX1_cyclesBy_15 ?_
  refine g_iald dX1_cyclesBy_16 sh_7 (al_7 hn) (Nat.le_of_ble_eq_true rfl) (by decide) ?_
  obtain ⟨o2, w⟩ := w
  refine g_i2l dX1_cyclesBy_17 o2 ?_
  refine g_ldc (n := 1000000) dX1_cyclesBy_18 ko_X1_97 rfl ?_
  refine g_iload_n dX1_cyclesBy_20 rfl ?_
  refine g_callSNI (n := 2) (As := [aI 1000000, aI x1]) (st := [aL (h 7 1), aL (10 * (h 7 0))]) dX1_cyclesBy_21 ml_X1_65 rfl rfl (Nat.le_of_ble_eq_true rfl) (RtI.mono w (fun r1 h1 w => ?_))
  obtain ⟨o3, w⟩ := w
  refine g_i2l dX1_cyclesBy_24 o3 ?_
  refine g_lmul dX1_cyclesBy_25 ?_
  refine g_ldc2 (n := 10) dX1_cyclesBy_26 kl_X1_90 rfl ?_
  obtain ⟨o4, w⟩ := w
  refine g_ldiv dX1_cyclesBy_29 o4 (by decide) (by decide) ?_
  refine g_ladd dX1_cyclesBy_30 ?_
  refine g_lstore_n (ls' := [aI x0, aI x1, aP 4, aL ((10 * (h 7 0)) + (((h 7 1) * r1).tdiv 10)), aU, aU, aU, aU, aU, aU, aU]) dX1_cyclesBy_31 (Nat.le_of_ble_eq_true rfl) rfl rfl ?_
  refine g_iload_n dX1_cyclesBy_32 rfl ?_
  refine g_aload_n dX1_cyclesBy_33 rfl ?_
  refine g_getR dX1_cyclesBy_34 fl_X1_92 sh_4 (al_4 hn) (fun _ _ _ => rfl) rf_4_2 ?_
  refine g_iconst dX1_cyclesBy_37 ?_
  refine g_iald dX1_cyclesBy_38 sh_7 (al_7 hn) (Nat.le_of_ble_eq_true rfl) (by decide) ?_
  refine g_isub dX1_cyclesBy_39 ?_
  obtain ⟨o5, w⟩ := w
  refine g_i2l dX1_cyclesBy_40 o5 ?_
  refine g_ldc2 (n := 1000000) dX1_cyclesBy_41 kl_X1_98 rfl ?_
  refine g_lmul dX1_cyclesBy_44 ?_
  refine g_lstore (ls' := [aI x0, aI x1, aP 4, aL ((10 * (h 7 0)) + (((h 7 1) * r1).tdiv 10)), aU, aL ((x0 - (h1 7 2)) * 1000000), aU, aU, aU, aU, aU]) dX1_cyclesBy_45 (Nat.le_of_ble_eq_true rfl) rfl rfl ?_
  refine g_lload dX1_cyclesBy_47 rfl ?_
  refine g_lconst (v := 0) dX1_cyclesBy_49 rfl ?_
  obtain ⟨o6, w⟩ := w
  refine g_lcmp dX1_cyclesBy_50 o6 (by decide) ?_
  refine g_if_ge (tgt := 56) dX1_cyclesBy_51 rfl (rg_lcm3 _ _) ?_
  refine ite_imp2 lcm3_ge (fun w => ?_) (fun w => ?_) w
  · refine g_iload_n dX1_cyclesBy_56 rfl ?_
    obtain ⟨o7, w⟩ := w
    refine g_i2l dX1_cyclesBy_57 o7 ?_
    refine g_lload_n dX1_cyclesBy_58 rfl ?_
    refine g_lmul dX1_cyclesBy_59 ?_
    refine g_lstore (ls' := [aI x0, aI x1, aP 4, aL ((10 * (h 7 0)) + (((h 7 1) * r1).tdiv 10)), aU, aL ((x0 - (h1 7 2)) * 1000000), aU, aL (x0 * ((10 * (h 7 0)) + (((h 7 1) * r1).tdiv 10))), aU, aU, aU]) dX1_cyclesBy_60 (Nat.le_of_ble_eq_true rfl) rfl rfl ?_
    refine g_lload dX1_cyclesBy_62 rfl ?_
    refine g_lconst (v := 0) dX1_cyclesBy_64 rfl ?_
    obtain ⟨o8, w⟩ := w
    refine g_lcmp dX1_cyclesBy_65 o8 (by decide) ?_
    refine g_if_gt (tgt := 72) dX1_cyclesBy_66 rfl (rg_lcm3 _ _) ?_
    refine ite_imp2 lcm3_gt (fun w => ?_) (fun w => ?_) w
    · refine g_lload dX1_cyclesBy_72 rfl ?_
      refine g_lload dX1_cyclesBy_74 rfl ?_
      obtain ⟨o9, w⟩ := w
      refine g_ldiv dX1_cyclesBy_76 o6 o8 o9 ?_
      refine g_lconst (v := 1) dX1_cyclesBy_77 rfl ?_
      refine g_ladd dX1_cyclesBy_78 ?_
      refine g_lstore (ls' := [aI x0, aI x1, aP 4, aL ((10 * (h 7 0)) + (((h 7 1) * r1).tdiv 10)), aU, aL ((x0 - (h1 7 2)) * 1000000), aU, aL (x0 * ((10 * (h 7 0)) + (((h 7 1) * r1).tdiv 10))), aU, aL ((((x0 - (h1 7 2)) * 1000000).tdiv (x0 * ((10 * (h 7 0)) + (((h 7 1) * r1).tdiv 10)))) + 1), aU]) dX1_cyclesBy_79 (Nat.le_of_ble_eq_true rfl) rfl rfl ?_
      refine g_lload dX1_cyclesBy_81 rfl ?_
      refine g_ldc2 (n := 100000) dX1_cyclesBy_83 kl_X1_101 rfl ?_
      obtain ⟨o10, w⟩ := w
      refine g_lcmp dX1_cyclesBy_86 o10 (by decide) ?_
      refine g_if_ge (tgt := 96) dX1_cyclesBy_87 rfl (rg_lcm3 _ _) ?_
      refine ite_imp2 lcm3_ge (fun w => ?_) (fun w => ?_) w
      · refine g_ldc (n := 100000) dX1_cyclesBy_96 ko_X1_100 rfl ?_
        exact g_retI dX1_cyclesBy_98 rfl w
      · refine g_lload dX1_cyclesBy_90 rfl ?_
        refine g_l2i dX1_cyclesBy_92 o10 ?_
        refine g_goto (tgt := 98) dX1_cyclesBy_93 rfl ?_
        exact g_retI dX1_cyclesBy_98 rfl w
    · refine g_ldc (n := 100000) dX1_cyclesBy_69 ko_X1_100 rfl ?_
      exact g_retI dX1_cyclesBy_71 rfl w
  · refine g_iconst dX1_cyclesBy_54 ?_
    exact g_retI dX1_cyclesBy_55 rfl w
theorem b_X1_endingRow_10 {l : Launch} {D : Nat} {ζ : ZP} {h : HI} {Q : Int → HI → Prop} {x1 x4 x5 x6 : Int} (hn : 144 ≤ ζ.2.2.2.2) (w : (0 ≤ x1 ∧ x1 < 10) ∧ (rg x6) ∧ (rg (h 14 x1)) ∧ (if (h 14 x1) ≤ x6 then (Q x4 h) else (RtI l D mX1_cyclesOf (zz ζ) [aP 10, aI x1, aI x6, aP 40, aP 4] h (fun r1 h1 => (rg r1) ∧ (rg x5) ∧ (if x5 ≤ r1 then (G l (D + 1) 0 0 mX1_endingRow (zz ζ) 10 [aP 10, aI x1, aP 40, aP 4, aI x4, aI x5, aI (x6 + 1), aU] [] h1 (qI (zz ζ) Q)) else (G l (D + 1) 0 0 mX1_endingRow (zz ζ) 10 [aP 10, aI x1, aP 40, aP 4, aI x6, aI r1, aI (x6 + 1), aU] [] h1 (qI (zz ζ) Q))))))) : G l (D + 1) 0 0 mX1_endingRow (zz ζ) 10 [aP 10, aI x1, aP 40, aP 4, aI x4, aI x5, aI x6, aU] [] h (qI (zz ζ) Q) := by
  refine g_iload dX1_endingRow_10 rfl ?_
  refine g_aload_n dX1_endingRow_12 rfl ?_
  refine g_getR dX1_endingRow_13 fl_X1_21 sh_10 (al_10 hn) (fun _ _ _ => rfl) rf_10_4 ?_
  refine g_iload_n dX1_endingRow_16 rfl ?_
  obtain ⟨o1, w⟩ := w
  refine g_iald dX1_endingRow_17 sh_14 (al_14 hn) (Nat.le_of_ble_eq_true rfl) o1 ?_
  obtain ⟨o2, w⟩ := w
  obtain ⟨o3, w⟩ := w
  refine g_cmp_ge (tgt := 53) dX1_endingRow_18 rfl o2 o3 ?_
  refine ite_imp (fun w => ?_) (fun w => ?_) w
  · refine g_iload dX1_endingRow_53 rfl ?_
    exact g_retI dX1_endingRow_55 rfl w
  · refine g_aload_n dX1_endingRow_21 rfl ?_
    refine g_iload_n dX1_endingRow_22 rfl ?_
    refine g_iload dX1_endingRow_23 rfl ?_
    refine g_aload_n dX1_endingRow_25 rfl ?_
    refine g_aload_n dX1_endingRow_26 rfl ?_
    refine g_callVI (n := 4) (As := [aI x1, aI x6, aP 40, aP 4]) (st := []) dX1_endingRow_27 ml_X1_104 sh_10 rfl (al_10 hn) rfl rfl (Nat.le_of_ble_eq_true rfl) (RtI.mono w (fun r1 h1 w => ?_))
    refine g_istore (ls' := [aP 10, aI x1, aP 40, aP 4, aI x4, aI x5, aI x6, aI r1]) dX1_endingRow_30 (Nat.le_of_ble_eq_true rfl) rfl rfl ?_
    refine g_iload dX1_endingRow_32 rfl ?_
    refine g_iload dX1_endingRow_34 rfl ?_
    obtain ⟨o4, w⟩ := w
    obtain ⟨o5, w⟩ := w
    refine g_cmp_ge (tgt := 47) dX1_endingRow_36 rfl o4 o5 ?_
    refine ite_imp (fun w => ?_) (fun w => ?_) w
    · refine g_iinc (ls' := [aP 10, aI x1, aP 40, aP 4, aI x4, aI x5, aI (x6 + 1), aI r1]) dX1_endingRow_47 rfl (Nat.le_of_ble_eq_true rfl) rfl rfl ?_
      refine g_goto (tgt := 10) dX1_endingRow_50 rfl ?_
      exact g_sub (ls' := [aP 10, aI x1, aP 40, aP 4, aI x4, aI x5, aI (x6 + 1), aU]) ⟨Or.inr rfl, Or.inr rfl, Or.inr rfl, Or.inr rfl, Or.inr rfl, Or.inr rfl, Or.inr rfl, Or.inl rfl, trivial⟩ w
    · refine g_iload dX1_endingRow_39 rfl ?_
      refine g_istore (ls' := [aP 10, aI x1, aP 40, aP 4, aI x4, aI r1, aI x6, aI r1]) dX1_endingRow_41 (Nat.le_of_ble_eq_true rfl) rfl rfl ?_
      refine g_iload dX1_endingRow_43 rfl ?_
      refine g_istore (ls' := [aP 10, aI x1, aP 40, aP 4, aI x6, aI r1, aI x6, aI r1]) dX1_endingRow_45 (Nat.le_of_ble_eq_true rfl) rfl rfl ?_
      refine g_iinc (ls' := [aP 10, aI x1, aP 40, aP 4, aI x6, aI r1, aI (x6 + 1), aI r1]) dX1_endingRow_47 rfl (Nat.le_of_ble_eq_true rfl) rfl rfl ?_
      refine g_goto (tgt := 10) dX1_endingRow_50 rfl ?_
      exact g_sub (ls' := [aP 10, aI x1, aP 40, aP 4, aI x6, aI r1, aI (x6 + 1), aU]) ⟨Or.inr rfl, Or.inr rfl, Or.inr rfl, Or.inr rfl, Or.inr rfl, Or.inr rfl, Or.inr rfl, Or.inl rfl, trivial⟩ w
theorem e_X1_endingRow {l : Launch} {D : Nat} {ζ : ZP} {h : HI} {Q : Int → HI → Prop} {x1 : Int} (hn : 144 ≤ ζ.2.2.2.2) (w : G l (D + 1) 0 0 mX1_endingRow (zz ζ) 10 [aP 10, aI x1, aP 40, aP 4, aI 0, aI 100001, aI 0, aU] [] h (qI (zz ζ) Q)) : RtI l (D + 1) mX1_endingRow (zz ζ) [aP 10, aI x1, aP 40, aP 4] h Q := by
  refine RtI.of 4 pn_X1 [aP 10, aI x1, aP 40, aP 4, aU, aU, aU, aU] rfl rfl ?_
  refine g_iconst dX1_endingRow_0 ?_
  refine g_istore (ls' := [aP 10, aI x1, aP 40, aP 4, aI 0, aU, aU, aU]) dX1_endingRow_1 (Nat.le_of_ble_eq_true rfl) rfl rfl ?_
  refine g_ldc (n := 100001) dX1_endingRow_3 ko_X1_103 rfl ?_
  refine g_istore (ls' := [aP 10, aI x1, aP 40, aP 4, aI 0, aI 100001, aU, aU]) dX1_endingRow_5 (Nat.le_of_ble_eq_true rfl) rfl rfl ?_
  refine g_iconst dX1_endingRow_7 ?_
  refine g_istore (ls' := [aP 10, aI x1, aP 40, aP 4, aI 0, aI 100001, aI 0, aU]) dX1_endingRow_8 (Nat.le_of_ble_eq_true rfl) rfl rfl ?_
  exact g_sub (ls' := [aP 10, aI x1, aP 40, aP 4, aI 0, aI 100001, aI 0, aU]) ⟨Or.inr rfl, Or.inr rfl, Or.inr rfl, Or.inr rfl, Or.inr rfl, Or.inr rfl, Or.inr rfl, Or.inl rfl, trivial⟩ w
theorem b_X1_bestPair_3 {l : Launch} {D : Nat} {ζ : ZP} {h : HI} {Q : Int → HI → Prop} {x1 x3 x6 : Int} (hn : 144 ≤ ζ.2.2.2.2) (w : (0 ≤ x1 ∧ x1 < 10) ∧ (rg x6) ∧ (rg (h 14 x1)) ∧ (if (h 14 x1) ≤ x6 then (G l (D + 1) 0 0 mX1_bestPair (zz ζ) 49 [aP 10, aI x1, aP 51, aI x3, aP 40, aP 4, aI 0, aI 0, aU, aU, aU, aU, aU, aU, aU] [] (hu h 10 12 (-1)) (qI (zz ζ) Q)) else (RtI l D mX1_cyclesOf (zz ζ) [aP 10, aI x1, aI x6, aP 40, aP 4] h (fun r1 h1 => (0 ≤ x6 ∧ x6 < 40) ∧ G l (D + 1) 0 0 mX1_bestPair (zz ζ) 3 [aP 10, aI x1, aP 51, aI x3, aP 40, aP 4, aI (x6 + 1), aU, aU, aU, aU, aU, aU, aU, aU] [] (hu h1 21 x6 r1) (qI (zz ζ) Q))))) : G l (D + 1) 0 0 mX1_bestPair (zz ζ) 3 [aP 10, aI x1, aP 51, aI x3, aP 40, aP 4, aI x6, aU, aU, aU, aU, aU, aU, aU, aU] [] h (qI (zz ζ) Q) := by
  refine g_iload dX1_bestPair_3 rfl ?_
  refine g_aload_n dX1_bestPair_5 rfl ?_
  refine g_getR dX1_bestPair_6 fl_X1_21 sh_10 (al_10 hn) (fun _ _ _ => rfl) rf_10_4 ?_
  refine g_iload_n dX1_bestPair_9 rfl ?_
  obtain ⟨o1, w⟩ := w
  refine g_iald dX1_bestPair_10 sh_14 (al_14 hn) (Nat.le_of_ble_eq_true rfl) o1 ?_
  obtain ⟨o2, w⟩ := w
  obtain ⟨o3, w⟩ := w
  refine g_cmp_ge (tgt := 38) dX1_bestPair_11 rfl o2 o3 ?_
  refine ite_imp (fun w => ?_) (fun w => ?_) w
  · refine g_aload_n dX1_bestPair_38 rfl ?_
    refine g_iconst dX1_bestPair_39 ?_
    refine g_putI (J := 12) dX1_bestPair_40 fl_X1_108 sh_10 (al_10 hn) rfl rfl ?_
    refine g_iconst dX1_bestPair_43 ?_
    refine g_istore (ls' := [aP 10, aI x1, aP 51, aI x3, aP 40, aP 4, aI 0, aU, aU, aU, aU, aU, aU, aU, aU]) dX1_bestPair_44 (Nat.le_of_ble_eq_true rfl) rfl rfl ?_
    refine g_iconst dX1_bestPair_46 ?_
    refine g_istore (ls' := [aP 10, aI x1, aP 51, aI x3, aP 40, aP 4, aI 0, aI 0, aU, aU, aU, aU, aU, aU, aU]) dX1_bestPair_47 (Nat.le_of_ble_eq_true rfl) rfl rfl ?_
    exact g_sub (ls' := [aP 10, aI x1, aP 51, aI x3, aP 40, aP 4, aI 0, aI 0, aU, aU, aU, aU, aU, aU, aU]) ⟨Or.inr rfl, Or.inr rfl, Or.inr rfl, Or.inr rfl, Or.inr rfl, Or.inr rfl, Or.inr rfl, Or.inr rfl, Or.inl rfl, Or.inl rfl, Or.inl rfl, Or.inl rfl, Or.inl rfl, Or.inl rfl, Or.inl rfl, trivial⟩ w
  · refine g_aload_n dX1_bestPair_14 rfl ?_
    refine g_getR dX1_bestPair_15 fl_X1_42 sh_10 (al_10 hn) (fun _ _ _ => rfl) rf_10_13 ?_
    refine g_iload dX1_bestPair_18 rfl ?_
    refine g_aload_n dX1_bestPair_20 rfl ?_
    refine g_iload_n dX1_bestPair_21 rfl ?_
    refine g_iload dX1_bestPair_22 rfl ?_
    refine g_aload dX1_bestPair_24 rfl ?_
    refine g_aload dX1_bestPair_26 rfl ?_
    refine g_callVI (n := 4) (As := [aI x1, aI x6, aP 40, aP 4]) (st := [aI x6, aP 21]) dX1_bestPair_28 ml_X1_104 sh_10 rfl (al_10 hn) rfl rfl (Nat.le_of_ble_eq_true rfl) (RtI.mono w (fun r1 h1 w => ?_))
    obtain ⟨o4, w⟩ := w
    refine g_iast dX1_bestPair_31 sh_21 (al_21 hn) (Nat.le_of_ble_eq_true rfl) o4 ?_
    refine g_iinc (ls' := [aP 10, aI x1, aP 51, aI x3, aP 40, aP 4, aI (x6 + 1), aU, aU, aU, aU, aU, aU, aU, aU]) dX1_bestPair_32 rfl (Nat.le_of_ble_eq_true rfl) rfl rfl ?_
    refine g_goto (tgt := 3) dX1_bestPair_35 rfl ?_
    exact g_sub (ls' := [aP 10, aI x1, aP 51, aI x3, aP 40, aP 4, aI (x6 + 1), aU, aU, aU, aU, aU, aU, aU, aU]) ⟨Or.inr rfl, Or.inr rfl, Or.inr rfl, Or.inr rfl, Or.inr rfl, Or.inr rfl, Or.inr rfl, Or.inl rfl, Or.inl rfl, Or.inl rfl, Or.inl rfl, Or.inl rfl, Or.inl rfl, Or.inl rfl, Or.inl rfl, trivial⟩ w
theorem b_X1_bestPair_49 {l : Launch} {D : Nat} {ζ : ZP} {h : HI} {Q : Int → HI → Prop} {x1 x3 x6 x7 : Int} (hn : 144 ≤ ζ.2.2.2.2) (w : (0 ≤ x1 ∧ x1 < 10) ∧ (rg x7) ∧ (rg (h 13 x1)) ∧ (if (h 13 x1) ≤ x7 then (Q x6 h) else (RtI l D mX1_rowSize (zz ζ) [aP 10, aI x1] h (fun r1 h1 => RtI l D mX11_cut (zz ζ) [aI x7, aI r1] h1 (fun r2 h2 => RtI l D mX1_leastBut (zz ζ) [aP 10, aI r2, aI (h2 14 x1)] h2 (fun r3 h3 => RtI l D mX1_cellAt (zz ζ) [aP 10, aI x1, aI x7] h3 (fun r4 h4 => RtI l D mX1_holdOf (zz ζ) [aP 10, aI x1, aI r2, aP 40] h4 (fun r5 h5 => (0 ≤ r4 ∧ r4 < 60) ∧ RtI l D mX1_flowOf (zz ζ) [aP 10, aI x1, aI r2, aP 40] h5 (fun r6 h6 => RtI l D mX8_flowOf (zz ζ) [aP 40, aI r4] h6 (fun r7 h7 => G l (D + 1) 0 0 mX1_bestPair (zz ζ) 137 [aP 10, aI x1, aP 51, aI x3, aP 40, aP 4, aI x6, aI x7, aU, aI r3, aI r4, aI (r5 - (h5 44 r4)), aI (r6 - r7), aI 0, aU] [] h7 (qI (zz ζ) Q))))))))))) : G l (D + 1) 0 0 mX1_bestPair (zz ζ) 49 [aP 10, aI x1, aP 51, aI x3, aP 40, aP 4, aI x6, aI x7, aU, aU, aU, aU, aU, aU, aU] [] h (qI (zz ζ) Q) := by
  refine g_iload dX1_bestPair_49 rfl ?_
  refine g_aload_n dX1_bestPair_51 rfl ?_
  refine g_getR dX1_bestPair_52 fl_X1_18 sh_10 (al_10 hn) (fun _ _ _ => rfl) rf_10_3 ?_
  refine g_iload_n dX1_bestPair_55 rfl ?_
  obtain ⟨o1, w⟩ := w
  refine g_iald dX1_bestPair_56 sh_13 (al_13 hn) (Nat.le_of_ble_eq_true rfl) o1 ?_
  obtain ⟨o2, w⟩ := w
  obtain ⟨o3, w⟩ := w
  refine g_cmp_ge (tgt := 224) dX1_bestPair_57 rfl o2 o3 ?_
  refine ite_imp (fun w => ?_) (fun w => ?_) w
  · refine g_iload dX1_bestPair_224 rfl ?_
    exact g_retI dX1_bestPair_226 rfl w
  · refine g_iload dX1_bestPair_60 rfl ?_
    refine g_aload_n dX1_bestPair_62 rfl ?_
    refine g_iload_n dX1_bestPair_63 rfl ?_
    refine g_callVI (n := 1) (As := [aI x1]) (st := [aI x7]) dX1_bestPair_64 ml_X1_68 sh_10 rfl (al_10 hn) rfl rfl (Nat.le_of_ble_eq_true rfl) (RtI.mono w (fun r1 h1 w => ?_))
    refine g_callSNI (n := 2) (As := [aI x7, aI r1]) (st := []) dX1_bestPair_67 ml_X1_65 rfl rfl (Nat.le_of_ble_eq_true rfl) (RtI.mono w (fun r2 h2 w => ?_))
    refine g_istore (ls' := [aP 10, aI x1, aP 51, aI x3, aP 40, aP 4, aI x6, aI x7, aI r2, aU, aU, aU, aU, aU, aU]) dX1_bestPair_70 (Nat.le_of_ble_eq_true rfl) rfl rfl ?_
    refine g_aload_n dX1_bestPair_72 rfl ?_
    refine g_iload dX1_bestPair_73 rfl ?_
    refine g_aload_n dX1_bestPair_75 rfl ?_
    refine g_getR dX1_bestPair_76 fl_X1_21 sh_10 (al_10 hn) (fun _ _ _ => rfl) rf_10_4 ?_
    refine g_iload_n dX1_bestPair_79 rfl ?_
    refine g_iald dX1_bestPair_80 sh_14 (al_14 hn) (Nat.le_of_ble_eq_true rfl) o1 ?_
    refine g_callVI (n := 2) (As := [aI r2, aI (h2 14 x1)]) (st := []) dX1_bestPair_81 ml_X1_111 sh_10 rfl (al_10 hn) rfl rfl (Nat.le_of_ble_eq_true rfl) (RtI.mono w (fun r3 h3 w => ?_))
    refine g_istore (ls' := [aP 10, aI x1, aP 51, aI x3, aP 40, aP 4, aI x6, aI x7, aI r2, aI r3, aU, aU, aU, aU, aU]) dX1_bestPair_84 (Nat.le_of_ble_eq_true rfl) rfl rfl ?_
    refine g_aload_n dX1_bestPair_86 rfl ?_
    refine g_iload_n dX1_bestPair_87 rfl ?_
    refine g_iload dX1_bestPair_88 rfl ?_
    refine g_callVI (n := 2) (As := [aI x1, aI x7]) (st := []) dX1_bestPair_90 ml_X1_62 sh_10 rfl (al_10 hn) rfl rfl (Nat.le_of_ble_eq_true rfl) (RtI.mono w (fun r4 h4 w => ?_))
    refine g_istore (ls' := [aP 10, aI x1, aP 51, aI x3, aP 40, aP 4, aI x6, aI x7, aI r2, aI r3, aI r4, aU, aU, aU, aU]) dX1_bestPair_93 (Nat.le_of_ble_eq_true rfl) rfl rfl ?_
    refine g_aload_n dX1_bestPair_95 rfl ?_
    refine g_iload_n dX1_bestPair_96 rfl ?_
    refine g_iload dX1_bestPair_97 rfl ?_
    refine g_aload dX1_bestPair_99 rfl ?_
    refine g_callVI (n := 3) (As := [aI x1, aI r2, aP 40]) (st := []) dX1_bestPair_101 ml_X1_80 sh_10 rfl (al_10 hn) rfl rfl (Nat.le_of_ble_eq_true rfl) (RtI.mono w (fun r5 h5 w => ?_))
    refine g_aload dX1_bestPair_104 rfl ?_
    refine g_getR dX1_bestPair_106 fl_X1_72 sh_40 (al_40 hn) (fun _ _ _ => rfl) rf_40_4 ?_
    refine g_iload dX1_bestPair_109 rfl ?_
    obtain ⟨o4, w⟩ := w
    refine g_iald dX1_bestPair_111 sh_44 (al_44 hn) (Nat.le_of_ble_eq_true rfl) o4 ?_
    refine g_isub dX1_bestPair_112 ?_
    refine g_istore (ls' := [aP 10, aI x1, aP 51, aI x3, aP 40, aP 4, aI x6, aI x7, aI r2, aI r3, aI r4, aI (r5 - (h5 44 r4)), aU, aU, aU]) dX1_bestPair_113 (Nat.le_of_ble_eq_true rfl) rfl rfl ?_
    refine g_aload_n dX1_bestPair_115 rfl ?_
    refine g_iload_n dX1_bestPair_116 rfl ?_
    refine g_iload dX1_bestPair_117 rfl ?_
    refine g_aload dX1_bestPair_119 rfl ?_
    refine g_callVI (n := 3) (As := [aI x1, aI r2, aP 40]) (st := []) dX1_bestPair_121 ml_X1_84 sh_10 rfl (al_10 hn) rfl rfl (Nat.le_of_ble_eq_true rfl) (RtI.mono w (fun r6 h6 w => ?_))
    refine g_aload dX1_bestPair_124 rfl ?_
    refine g_iload dX1_bestPair_126 rfl ?_
    refine g_callVI (n := 1) (As := [aI r4]) (st := [aI r6]) dX1_bestPair_128 ml_X1_77 sh_40 rfl (al_40 hn) rfl rfl (Nat.le_of_ble_eq_true rfl) (RtI.mono w (fun r7 h7 w => ?_))
    refine g_isub dX1_bestPair_131 ?_
    refine g_istore (ls' := [aP 10, aI x1, aP 51, aI x3, aP 40, aP 4, aI x6, aI x7, aI r2, aI r3, aI r4, aI (r5 - (h5 44 r4)), aI (r6 - r7), aU, aU]) dX1_bestPair_132 (Nat.le_of_ble_eq_true rfl) rfl rfl ?_
    refine g_iconst dX1_bestPair_134 ?_
    refine g_istore (ls' := [aP 10, aI x1, aP 51, aI x3, aP 40, aP 4, aI x6, aI x7, aI r2, aI r3, aI r4, aI (r5 - (h5 44 r4)), aI (r6 - r7), aI 0, aU]) dX1_bestPair_135 (Nat.le_of_ble_eq_true rfl) rfl rfl ?_
    exact g_sub (ls' := [aP 10, aI x1, aP 51, aI x3, aP 40, aP 4, aI x6, aI x7, aU, aI r3, aI r4, aI (r5 - (h5 44 r4)), aI (r6 - r7), aI 0, aU]) ⟨Or.inr rfl, Or.inr rfl, Or.inr rfl, Or.inr rfl, Or.inr rfl, Or.inr rfl, Or.inr rfl, Or.inr rfl, Or.inl rfl, Or.inr rfl, Or.inr rfl, Or.inr rfl, Or.inr rfl, Or.inr rfl, Or.inl rfl, trivial⟩ w
theorem b_X1_bestPair_137 {l : Launch} {D : Nat} {ζ : ZP} {h : HI} {Q : Int → HI → Prop} {x1 x10 x11 x12 x13 x3 x6 x7 x9 : Int} (hn : 144 ≤ ζ.2.2.2.2) (w : (rg x13) ∧ (rg x3) ∧ (if x3 ≤ x13 then (G l (D + 1) 0 0 mX1_bestPair (zz ζ) 49 [aP 10, aI x1, aP 51, aI x3, aP 40, aP 4, aI x6, aI (x7 + 1), aU, aU, aU, aU, aU, aU, aU] [] h (qI (zz ζ) Q)) else ((0 ≤ x13 ∧ x13 < 60) ∧ (0 ≤ (h 51 x13) ∧ (h 51 x13) < 60) ∧ RtI l D mX8_flowOf (zz ζ) [aP 40, aI (h 51 x13)] h (fun r1 h1 => RtI l D mX1_cyclesBy (zz ζ) [aI (x11 + (h 44 (h 51 x13))), aI (x12 + r1), aP 4] h1 (fun r2 h2 => (rg r2) ∧ (rg x9) ∧ (rg (min r2 x9)) ∧ (rg (h2 10 12)) ∧ (if (min r2 x9) ≤ (h2 10 12) then (G l (D + 1) 0 0 mX1_bestPair (zz ζ) 137 [aP 10, aI x1, aP 51, aI x3, aP 40, aP 4, aI x6, aI x7, aU, aI x9, aI x10, aI x11, aI x12, aI (x13 + 1), aU] [] h2 (qI (zz ζ) Q)) else (G l (D + 1) 0 0 mX1_bestPair (zz ζ) 137 [aP 10, aI x1, aP 51, aI x3, aP 40, aP 4, aI (bor (bshl x10 8) (h2 51 x13)), aI x7, aU, aI x9, aI x10, aI x11, aI x12, aI (x13 + 1), aU] [] (hu h2 10 12 (min r2 x9)) (qI (zz ζ) Q)))))))) : G l (D + 1) 0 0 mX1_bestPair (zz ζ) 137 [aP 10, aI x1, aP 51, aI x3, aP 40, aP 4, aI x6, aI x7, aU, aI x9, aI x10, aI x11, aI x12, aI x13, aU] [] h (qI (zz ζ) Q) := by
  refine g_iload dX1_bestPair_137 rfl ?_
  refine g_iload_n dX1_bestPair_139 rfl ?_
  obtain ⟨o1, w⟩ := w
  obtain ⟨o2, w⟩ := w
  refine g_cmp_ge (tgt := 218) dX1_bestPair_140 rfl o1 o2 ?_
  refine ite_imp (fun w => ?_) (fun w => ?_) w
  · refine g_iinc (ls' := [aP 10, aI x1, aP 51, aI x3, aP 40, aP 4, aI x6, aI (x7 + 1), aU, aI x9, aI x10, aI x11, aI x12, aI x13, aU]) dX1_bestPair_218 rfl (Nat.le_of_ble_eq_true rfl) rfl rfl ?_
    refine g_goto (tgt := 49) dX1_bestPair_221 rfl ?_
    exact g_sub (ls' := [aP 10, aI x1, aP 51, aI x3, aP 40, aP 4, aI x6, aI (x7 + 1), aU, aU, aU, aU, aU, aU, aU]) ⟨Or.inr rfl, Or.inr rfl, Or.inr rfl, Or.inr rfl, Or.inr rfl, Or.inr rfl, Or.inr rfl, Or.inr rfl, Or.inl rfl, Or.inl rfl, Or.inl rfl, Or.inl rfl, Or.inl rfl, Or.inl rfl, Or.inl rfl, trivial⟩ w
  · refine g_iload dX1_bestPair_143 rfl ?_
    refine g_aload dX1_bestPair_145 rfl ?_
    refine g_getR dX1_bestPair_147 fl_X1_72 sh_40 (al_40 hn) (fun _ _ _ => rfl) rf_40_4 ?_
    refine g_aload_n dX1_bestPair_150 rfl ?_
    refine g_iload dX1_bestPair_151 rfl ?_
    obtain ⟨o3, w⟩ := w
    refine g_iald dX1_bestPair_153 sh_51 (al_51 hn) (Nat.le_of_ble_eq_true rfl) o3 ?_
    obtain ⟨o4, w⟩ := w
    refine g_iald dX1_bestPair_154 sh_44 (al_44 hn) (Nat.le_of_ble_eq_true rfl) o4 ?_
    refine g_iadd dX1_bestPair_155 ?_
    refine g_iload dX1_bestPair_156 rfl ?_
    refine g_aload dX1_bestPair_158 rfl ?_
    refine g_aload_n dX1_bestPair_160 rfl ?_
    refine g_iload dX1_bestPair_161 rfl ?_
    refine g_iald dX1_bestPair_163 sh_51 (al_51 hn) (Nat.le_of_ble_eq_true rfl) o3 ?_
    refine g_callVI (n := 1) (As := [aI (h 51 x13)]) (st := [aI x12, aI (x11 + (h 44 (h 51 x13)))]) dX1_bestPair_164 ml_X1_77 sh_40 rfl (al_40 hn) rfl rfl (Nat.le_of_ble_eq_true rfl) (RtI.mono w (fun r1 h1 w => ?_))
    refine g_iadd dX1_bestPair_167 ?_
    refine g_aload dX1_bestPair_168 rfl ?_
    refine g_callSI (n := 3) (As := [aI (x11 + (h 44 (h 51 x13))), aI (x12 + r1), aP 4]) (st := []) dX1_bestPair_170 ml_X1_86 rfl rfl (Nat.le_of_ble_eq_true rfl) rfl (RtI.mono w (fun r2 h2 w => ?_))
    refine g_istore (ls' := [aP 10, aI x1, aP 51, aI x3, aP 40, aP 4, aI x6, aI x7, aU, aI x9, aI x10, aI x11, aI x12, aI x13, aI r2]) dX1_bestPair_173 (Nat.le_of_ble_eq_true rfl) rfl rfl ?_
    refine g_iload dX1_bestPair_175 rfl ?_
    refine g_iload dX1_bestPair_177 rfl ?_
    obtain ⟨o5, w⟩ := w
    obtain ⟨o6, w⟩ := w
    refine g_min dX1_bestPair_179 mm_X1_114 (Nat.le_of_ble_eq_true rfl) o5 o6 ?_
    refine g_aload_n dX1_bestPair_182 rfl ?_
    refine g_getI (J := 12) dX1_bestPair_183 fl_X1_108 sh_10 (al_10 hn) (fun _ _ _ => rfl) rfl ?_
    obtain ⟨o7, w⟩ := w
    obtain ⟨o8, w⟩ := w
    refine g_cmp_le (tgt := 212) dX1_bestPair_186 rfl o7 o8 ?_
    refine ite_imp (fun w => ?_) (fun w => ?_) w
    · refine g_iinc (ls' := [aP 10, aI x1, aP 51, aI x3, aP 40, aP 4, aI x6, aI x7, aU, aI x9, aI x10, aI x11, aI x12, aI (x13 + 1), aI r2]) dX1_bestPair_212 rfl (Nat.le_of_ble_eq_true rfl) rfl rfl ?_
      refine g_goto (tgt := 137) dX1_bestPair_215 rfl ?_
      exact g_sub (ls' := [aP 10, aI x1, aP 51, aI x3, aP 40, aP 4, aI x6, aI x7, aU, aI x9, aI x10, aI x11, aI x12, aI (x13 + 1), aU]) ⟨Or.inr rfl, Or.inr rfl, Or.inr rfl, Or.inr rfl, Or.inr rfl, Or.inr rfl, Or.inr rfl, Or.inr rfl, Or.inl rfl, Or.inr rfl, Or.inr rfl, Or.inr rfl, Or.inr rfl, Or.inr rfl, Or.inl rfl, trivial⟩ w
    · refine g_aload_n dX1_bestPair_189 rfl ?_
      refine g_iload dX1_bestPair_190 rfl ?_
      refine g_iload dX1_bestPair_192 rfl ?_
      refine g_min dX1_bestPair_194 mm_X1_114 (Nat.le_of_ble_eq_true rfl) o5 o6 ?_
      refine g_putI (J := 12) dX1_bestPair_197 fl_X1_108 sh_10 (al_10 hn) rfl rfl ?_
      refine g_iload dX1_bestPair_200 rfl ?_
      refine g_bipush dX1_bestPair_202 rfl ?_
      refine g_ishl dX1_bestPair_204 ?_
      refine g_aload_n dX1_bestPair_205 rfl ?_
      refine g_iload dX1_bestPair_206 rfl ?_
      refine g_iald dX1_bestPair_208 sh_51 (al_51 hn) (Nat.le_of_ble_eq_true rfl) o3 ?_
      refine g_ior dX1_bestPair_209 ?_
      refine g_istore (ls' := [aP 10, aI x1, aP 51, aI x3, aP 40, aP 4, aI (bor (bshl x10 8) (h2 51 x13)), aI x7, aU, aI x9, aI x10, aI x11, aI x12, aI x13, aI r2]) dX1_bestPair_210 (Nat.le_of_ble_eq_true rfl) rfl rfl ?_
      refine g_iinc (ls' := [aP 10, aI x1, aP 51, aI x3, aP 40, aP 4, aI (bor (bshl x10 8) (h2 51 x13)), aI x7, aU, aI x9, aI x10, aI x11, aI x12, aI (x13 + 1), aI r2]) dX1_bestPair_212 rfl (Nat.le_of_ble_eq_true rfl) rfl rfl ?_
      refine g_goto (tgt := 137) dX1_bestPair_215 rfl ?_
      exact g_sub (ls' := [aP 10, aI x1, aP 51, aI x3, aP 40, aP 4, aI (bor (bshl x10 8) (h2 51 x13)), aI x7, aU, aI x9, aI x10, aI x11, aI x12, aI (x13 + 1), aU]) ⟨Or.inr rfl, Or.inr rfl, Or.inr rfl, Or.inr rfl, Or.inr rfl, Or.inr rfl, Or.inr rfl, Or.inr rfl, Or.inl rfl, Or.inr rfl, Or.inr rfl, Or.inr rfl, Or.inr rfl, Or.inr rfl, Or.inl rfl, trivial⟩ w
theorem e_X1_bestPair {l : Launch} {D : Nat} {ζ : ZP} {h : HI} {Q : Int → HI → Prop} {x1 x3 : Int} (hn : 144 ≤ ζ.2.2.2.2) (w : G l (D + 1) 0 0 mX1_bestPair (zz ζ) 3 [aP 10, aI x1, aP 51, aI x3, aP 40, aP 4, aI 0, aU, aU, aU, aU, aU, aU, aU, aU] [] h (qI (zz ζ) Q)) : RtI l (D + 1) mX1_bestPair (zz ζ) [aP 10, aI x1, aP 51, aI x3, aP 40, aP 4] h Q := by
  refine RtI.of 9 pn_X1 [aP 10, aI x1, aP 51, aI x3, aP 40, aP 4, aU, aU, aU, aU, aU, aU, aU, aU, aU] rfl rfl ?_
  refine g_iconst dX1_bestPair_0 ?_
  refine g_istore (ls' := [aP 10, aI x1, aP 51, aI x3, aP 40, aP 4, aI 0, aU, aU, aU, aU, aU, aU, aU, aU]) dX1_bestPair_1 (Nat.le_of_ble_eq_true rfl) rfl rfl ?_
  exact g_sub (ls' := [aP 10, aI x1, aP 51, aI x3, aP 40, aP 4, aI 0, aU, aU, aU, aU, aU, aU, aU, aU]) ⟨Or.inr rfl, Or.inr rfl, Or.inr rfl, Or.inr rfl, Or.inr rfl, Or.inr rfl, Or.inr rfl, Or.inl rfl, Or.inl rfl, Or.inl rfl, Or.inl rfl, Or.inl rfl, Or.inl rfl, Or.inl rfl, Or.inl rfl, trivial⟩ w
theorem b_X1_leastBut_6 {l : Launch} {D : Nat} {ζ : ZP} {h : HI} {Q : Int → HI → Prop} {x1 x2 x3 x4 : Int} (hn : 144 ≤ ζ.2.2.2.2) (w : (rg x4) ∧ (rg x2) ∧ (if x2 ≤ x4 then (Q x3 h) else ((rg x1) ∧ (if x4 = x1 then (G l (D + 1) 0 0 mX1_leastBut (zz ζ) 6 [aP 10, aI x1, aI x2, aI x3, aI (x4 + 1)] [] h (qI (zz ζ) Q)) else ((0 ≤ x4 ∧ x4 < 40) ∧ (rg x3) ∧ (rg (h 21 x4)) ∧ G l (D + 1) 0 0 mX1_leastBut (zz ζ) 6 [aP 10, aI x1, aI x2, aI (min x3 (h 21 x4)), aI (x4 + 1)] [] h (qI (zz ζ) Q)))))) : G l (D + 1) 0 0 mX1_leastBut (zz ζ) 6 [aP 10, aI x1, aI x2, aI x3, aI x4] [] h (qI (zz ζ) Q) := by
  refine g_iload dX1_leastBut_6 rfl ?_
  refine g_iload_n dX1_leastBut_8 rfl ?_
  obtain ⟨o1, w⟩ := w
  obtain ⟨o2, w⟩ := w
  refine g_cmp_ge (tgt := 36) dX1_leastBut_9 rfl o1 o2 ?_
  refine ite_imp (fun w => ?_) (fun w => ?_) w
  · refine g_iload_n dX1_leastBut_36 rfl ?_
    exact g_retI dX1_leastBut_37 rfl w
  · refine g_iload dX1_leastBut_12 rfl ?_
    refine g_iload_n dX1_leastBut_14 rfl ?_
    obtain ⟨o3, w⟩ := w
    refine g_cmp_eq (tgt := 30) dX1_leastBut_15 rfl o1 o3 ?_
    refine ite_imp (fun w => ?_) (fun w => ?_) w
    · refine g_iinc (ls' := [aP 10, aI x1, aI x2, aI x3, aI (x4 + 1)]) dX1_leastBut_30 rfl (Nat.le_of_ble_eq_true rfl) rfl rfl ?_
      refine g_goto (tgt := 6) dX1_leastBut_33 rfl ?_
      exact g_sub (ls' := [aP 10, aI x1, aI x2, aI x3, aI (x4 + 1)]) ⟨Or.inr rfl, Or.inr rfl, Or.inr rfl, Or.inr rfl, Or.inr rfl, trivial⟩ w
    · refine g_iload_n dX1_leastBut_18 rfl ?_
      refine g_aload_n dX1_leastBut_19 rfl ?_
      refine g_getR dX1_leastBut_20 fl_X1_42 sh_10 (al_10 hn) (fun _ _ _ => rfl) rf_10_13 ?_
      refine g_iload dX1_leastBut_23 rfl ?_
      obtain ⟨o4, w⟩ := w
      refine g_iald dX1_leastBut_25 sh_21 (al_21 hn) (Nat.le_of_ble_eq_true rfl) o4 ?_
      obtain ⟨o5, w⟩ := w
      obtain ⟨o6, w⟩ := w
      refine g_min dX1_leastBut_26 mm_X1_114 (Nat.le_of_ble_eq_true rfl) o5 o6 ?_
      refine g_istore_n (ls' := [aP 10, aI x1, aI x2, aI (min x3 (h 21 x4)), aI x4]) dX1_leastBut_29 (Nat.le_of_ble_eq_true rfl) rfl rfl ?_
      refine g_iinc (ls' := [aP 10, aI x1, aI x2, aI (min x3 (h 21 x4)), aI (x4 + 1)]) dX1_leastBut_30 rfl (Nat.le_of_ble_eq_true rfl) rfl rfl ?_
      refine g_goto (tgt := 6) dX1_leastBut_33 rfl ?_
      exact g_sub (ls' := [aP 10, aI x1, aI x2, aI (min x3 (h 21 x4)), aI (x4 + 1)]) ⟨Or.inr rfl, Or.inr rfl, Or.inr rfl, Or.inr rfl, Or.inr rfl, trivial⟩ w
theorem e_X1_leastBut {l : Launch} {D : Nat} {ζ : ZP} {h : HI} {Q : Int → HI → Prop} {x1 x2 : Int} (hn : 144 ≤ ζ.2.2.2.2) (w : G l (D + 1) 0 0 mX1_leastBut (zz ζ) 6 [aP 10, aI x1, aI x2, aI 100000, aI 0] [] h (qI (zz ζ) Q)) : RtI l (D + 1) mX1_leastBut (zz ζ) [aP 10, aI x1, aI x2] h Q := by
  refine RtI.of 2 pn_X1 [aP 10, aI x1, aI x2, aU, aU] rfl rfl ?_
  refine g_ldc (n := 100000) dX1_leastBut_0 ko_X1_100 rfl ?_
  refine g_istore_n (ls' := [aP 10, aI x1, aI x2, aI 100000, aU]) dX1_leastBut_2 (Nat.le_of_ble_eq_true rfl) rfl rfl ?_
  refine g_iconst dX1_leastBut_3 ?_
  refine g_istore (ls' := [aP 10, aI x1, aI x2, aI 100000, aI 0]) dX1_leastBut_4 (Nat.le_of_ble_eq_true rfl) rfl rfl ?_
  exact g_sub (ls' := [aP 10, aI x1, aI x2, aI 100000, aI 0]) ⟨Or.inr rfl, Or.inr rfl, Or.inr rfl, Or.inr rfl, Or.inr rfl, trivial⟩ w
theorem b_X1_shortOf_55 {l : Launch} {D : Nat} {ζ : ZP} {h : HI} {Q : Int → HI → Prop} {x1 x10 x3 x4 x6 x7 x8 x9 : Int} (hn : 144 ≤ ζ.2.2.2.2) (w : (rg x10) ∧ (rg (x7 + x6)) ∧ (if (x7 + x6) ≤ x10 then ((rg x9) ∧ (rg x3) ∧ (if x9 ≤ x3 then (Q ((10 * x8) + 0) h) else (Q ((10 * x8) + 1) h))) else (RtI l D mX1_cellAt (zz ζ) [aP 10, aI x4, aI x10] h (fun r1 h1 => (rg r1) ∧ (rg x1) ∧ (if r1 = x1 then (G l (D + 1) 0 0 mX1_shortOf (zz ζ) 55 [aP 10, aI x1, aP 40, aI x3, aI x4, aU, aI x6, aI x7, aI x8, aI x9, aI (x10 + 1), aU, aU] [] h1 (qI (zz ζ) Q)) else ((0 ≤ x1 ∧ x1 < 60) ∧ (0 ≤ r1 ∧ r1 < 60) ∧ RtI l D mX11_cut (zz ζ) [aI 37000, aI ((h1 45 x1) + (h1 45 r1))] h1 (fun r2 h2 => (rg r2) ∧ (rg x3) ∧ (if r2 ≤ x3 then (G l (D + 1) 0 0 mX1_shortOf (zz ζ) 55 [aP 10, aI x1, aP 40, aI x3, aI x4, aU, aI x6, aI x7, aI (x8 + 0), aI (x9 + r2), aI (x10 + 1), aU, aU] [] h2 (qI (zz ζ) Q)) else (G l (D + 1) 0 0 mX1_shortOf (zz ζ) 55 [aP 10, aI x1, aP 40, aI x3, aI x4, aU, aI x6, aI x7, aI (x8 + 1), aI (x9 + r2), aI (x10 + 1), aU, aU] [] h2 (qI (zz ζ) Q)))))))))) : G l (D + 1) 0 0 mX1_shortOf (zz ζ) 55 [aP 10, aI x1, aP 40, aI x3, aI x4, aU, aI x6, aI x7, aI x8, aI x9, aI x10, aU, aU] [] h (qI (zz ζ) Q) := by
  refine g_iload dX1_shortOf_55 rfl ?_
  refine g_iload dX1_shortOf_57 rfl ?_
  refine g_iload dX1_shortOf_59 rfl ?_
  refine g_iadd dX1_shortOf_61 ?_
  obtain ⟨o1, w⟩ := w
  obtain ⟨o2, w⟩ := w
  refine g_cmp_ge (tgt := 131) dX1_shortOf_62 rfl o1 o2 ?_
  refine ite_imp (fun w => ?_) (fun w => ?_) w
  · refine g_bipush dX1_shortOf_131 rfl ?_
    refine g_iload dX1_shortOf_133 rfl ?_
    refine g_imul dX1_shortOf_135 ?_
    refine g_iload dX1_shortOf_136 rfl ?_
    refine g_iload_n dX1_shortOf_138 rfl ?_
    obtain ⟨o3, w⟩ := w
    obtain ⟨o4, w⟩ := w
    refine g_cmp_le (tgt := 146) dX1_shortOf_139 rfl o3 o4 ?_
    refine ite_imp (fun w => ?_) (fun w => ?_) w
    · refine g_iconst dX1_shortOf_146 ?_
      refine g_iadd dX1_shortOf_147 ?_
      exact g_retI dX1_shortOf_148 rfl w
    · refine g_iconst dX1_shortOf_142 ?_
      refine g_goto (tgt := 147) dX1_shortOf_143 rfl ?_
      refine g_iadd dX1_shortOf_147 ?_
      exact g_retI dX1_shortOf_148 rfl w
  · refine g_aload_n dX1_shortOf_65 rfl ?_
    refine g_iload dX1_shortOf_66 rfl ?_
    refine g_iload dX1_shortOf_68 rfl ?_
    refine g_callVI (n := 2) (As := [aI x4, aI x10]) (st := []) dX1_shortOf_70 ml_X1_62 sh_10 rfl (al_10 hn) rfl rfl (Nat.le_of_ble_eq_true rfl) (RtI.mono w (fun r1 h1 w => ?_))
    refine g_istore (ls' := [aP 10, aI x1, aP 40, aI x3, aI x4, aU, aI x6, aI x7, aI x8, aI x9, aI x10, aI r1, aU]) dX1_shortOf_73 (Nat.le_of_ble_eq_true rfl) rfl rfl ?_
    refine g_iload dX1_shortOf_75 rfl ?_
    refine g_iload_n dX1_shortOf_77 rfl ?_
    obtain ⟨o5, w⟩ := w
    obtain ⟨o6, w⟩ := w
    refine g_cmp_eq (tgt := 125) dX1_shortOf_78 rfl o5 o6 ?_
    refine ite_imp (fun w => ?_) (fun w => ?_) w
    · refine g_iinc (ls' := [aP 10, aI x1, aP 40, aI x3, aI x4, aU, aI x6, aI x7, aI x8, aI x9, aI (x10 + 1), aI r1, aU]) dX1_shortOf_125 rfl (Nat.le_of_ble_eq_true rfl) rfl rfl ?_
      refine g_goto (tgt := 55) dX1_shortOf_128 rfl ?_
      exact g_sub (ls' := [aP 10, aI x1, aP 40, aI x3, aI x4, aU, aI x6, aI x7, aI x8, aI x9, aI (x10 + 1), aU, aU]) ⟨Or.inr rfl, Or.inr rfl, Or.inr rfl, Or.inr rfl, Or.inr rfl, Or.inl rfl, Or.inr rfl, Or.inr rfl, Or.inr rfl, Or.inr rfl, Or.inr rfl, Or.inl rfl, Or.inl rfl, trivial⟩ w
    · refine g_ldc (n := 37000) dX1_shortOf_81 ko_X1_119 rfl ?_
      refine g_aload_n dX1_shortOf_83 rfl ?_
      refine g_getR dX1_shortOf_84 fl_X1_120 sh_40 (al_40 hn) (fun _ _ _ => rfl) rf_40_5 ?_
      refine g_iload_n dX1_shortOf_87 rfl ?_
      obtain ⟨o7, w⟩ := w
      refine g_iald dX1_shortOf_88 sh_45 (al_45 hn) (Nat.le_of_ble_eq_true rfl) o7 ?_
      refine g_aload_n dX1_shortOf_89 rfl ?_
      refine g_getR dX1_shortOf_90 fl_X1_120 sh_40 (al_40 hn) (fun _ _ _ => rfl) rf_40_5 ?_
      refine g_iload dX1_shortOf_93 rfl ?_
      obtain ⟨o8, w⟩ := w
      refine g_iald dX1_shortOf_95 sh_45 (al_45 hn) (Nat.le_of_ble_eq_true rfl) o8 ?_
      refine g_iadd dX1_shortOf_96 ?_
      refine g_callSNI (n := 2) (As := [aI 37000, aI ((h1 45 x1) + (h1 45 r1))]) (st := []) dX1_shortOf_97 ml_X1_65 rfl rfl (Nat.le_of_ble_eq_true rfl) (RtI.mono w (fun r2 h2 w => ?_))
      refine g_istore (ls' := [aP 10, aI x1, aP 40, aI x3, aI x4, aU, aI x6, aI x7, aI x8, aI x9, aI x10, aI r1, aI r2]) dX1_shortOf_100 (Nat.le_of_ble_eq_true rfl) rfl rfl ?_
      refine g_iload dX1_shortOf_102 rfl ?_
      refine g_iload dX1_shortOf_104 rfl ?_
      refine g_iload_n dX1_shortOf_106 rfl ?_
      obtain ⟨o9, w⟩ := w
      obtain ⟨o10, w⟩ := w
      refine g_cmp_le (tgt := 114) dX1_shortOf_107 rfl o9 o10 ?_
      refine ite_imp (fun w => ?_) (fun w => ?_) w
      · refine g_iconst dX1_shortOf_114 ?_
        refine g_iadd dX1_shortOf_115 ?_
        refine g_istore (ls' := [aP 10, aI x1, aP 40, aI x3, aI x4, aU, aI x6, aI x7, aI (x8 + 0), aI x9, aI x10, aI r1, aI r2]) dX1_shortOf_116 (Nat.le_of_ble_eq_true rfl) rfl rfl ?_
        refine g_iload dX1_shortOf_118 rfl ?_
        refine g_iload dX1_shortOf_120 rfl ?_
        refine g_iadd dX1_shortOf_122 ?_
        refine g_istore (ls' := [aP 10, aI x1, aP 40, aI x3, aI x4, aU, aI x6, aI x7, aI (x8 + 0), aI (x9 + r2), aI x10, aI r1, aI r2]) dX1_shortOf_123 (Nat.le_of_ble_eq_true rfl) rfl rfl ?_
        refine g_iinc (ls' := [aP 10, aI x1, aP 40, aI x3, aI x4, aU, aI x6, aI x7, aI (x8 + 0), aI (x9 + r2), aI (x10 + 1), aI r1, aI r2]) dX1_shortOf_125 rfl (Nat.le_of_ble_eq_true rfl) rfl rfl ?_
        refine g_goto (tgt := 55) dX1_shortOf_128 rfl ?_
        exact g_sub (ls' := [aP 10, aI x1, aP 40, aI x3, aI x4, aU, aI x6, aI x7, aI (x8 + 0), aI (x9 + r2), aI (x10 + 1), aU, aU]) ⟨Or.inr rfl, Or.inr rfl, Or.inr rfl, Or.inr rfl, Or.inr rfl, Or.inl rfl, Or.inr rfl, Or.inr rfl, Or.inr rfl, Or.inr rfl, Or.inr rfl, Or.inl rfl, Or.inl rfl, trivial⟩ w
      · refine g_iconst dX1_shortOf_110 ?_
        refine g_goto (tgt := 115) dX1_shortOf_111 rfl ?_
        refine g_iadd dX1_shortOf_115 ?_
        refine g_istore (ls' := [aP 10, aI x1, aP 40, aI x3, aI x4, aU, aI x6, aI x7, aI (x8 + 1), aI x9, aI x10, aI r1, aI r2]) dX1_shortOf_116 (Nat.le_of_ble_eq_true rfl) rfl rfl ?_
        refine g_iload dX1_shortOf_118 rfl ?_
        refine g_iload dX1_shortOf_120 rfl ?_
        refine g_iadd dX1_shortOf_122 ?_
        refine g_istore (ls' := [aP 10, aI x1, aP 40, aI x3, aI x4, aU, aI x6, aI x7, aI (x8 + 1), aI (x9 + r2), aI x10, aI r1, aI r2]) dX1_shortOf_123 (Nat.le_of_ble_eq_true rfl) rfl rfl ?_
        refine g_iinc (ls' := [aP 10, aI x1, aP 40, aI x3, aI x4, aU, aI x6, aI x7, aI (x8 + 1), aI (x9 + r2), aI (x10 + 1), aI r1, aI r2]) dX1_shortOf_125 rfl (Nat.le_of_ble_eq_true rfl) rfl rfl ?_
        refine g_goto (tgt := 55) dX1_shortOf_128 rfl ?_
        exact g_sub (ls' := [aP 10, aI x1, aP 40, aI x3, aI x4, aU, aI x6, aI x7, aI (x8 + 1), aI (x9 + r2), aI (x10 + 1), aU, aU]) ⟨Or.inr rfl, Or.inr rfl, Or.inr rfl, Or.inr rfl, Or.inr rfl, Or.inl rfl, Or.inr rfl, Or.inr rfl, Or.inr rfl, Or.inr rfl, Or.inr rfl, Or.inl rfl, Or.inl rfl, trivial⟩ w
theorem e_X1_shortOf {l : Launch} {D : Nat} {ζ : ZP} {h : HI} {Q : Int → HI → Prop} {x1 x3 : Int} (hn : 144 ≤ ζ.2.2.2.2) (w : (0 ≤ x1 ∧ x1 < 60) ∧ RtI l D mX1_placeOf (zz ζ) [aP 10, aI (h 11 x1), aI x1] h (fun r1 h1 => (rg r1) ∧ (if ¬ r1 = (-1) then (RtI l D mX1_rowSize (zz ζ) [aP 10, aI (h 11 x1)] h1 (fun r2 h2 => RtI l D mX11_cut (zz ζ) [aI r1, aI r2] h2 (fun r3 h3 => G l (D + 1) 0 0 mX1_shortOf (zz ζ) 55 [aP 10, aI x1, aP 40, aI x3, aI (h 11 x1), aU, aI r2, aI (r3 * r2), aI 0, aI 0, aI (r3 * r2), aU, aU] [] h3 (qI (zz ζ) Q)))) else (Q (-1) h1)))) : RtI l (D + 1) mX1_shortOf (zz ζ) [aP 10, aI x1, aP 40, aI x3] h Q := by
  refine RtI.of 9 pn_X1 [aP 10, aI x1, aP 40, aI x3, aU, aU, aU, aU, aU, aU, aU, aU, aU] rfl rfl ?_
  refine g_aload_n dX1_shortOf_0 rfl ?_
  refine g_getR dX1_shortOf_1 fl_X1_9 sh_10 (al_10 hn) (fun _ _ _ => rfl) rf_10_1 ?_
  refine g_iload_n dX1_shortOf_4 rfl ?_
  obtain ⟨o1, w⟩ := w
  refine g_iald dX1_shortOf_5 sh_11 (al_11 hn) (Nat.le_of_ble_eq_true rfl) o1 ?_
  refine g_istore (ls' := [aP 10, aI x1, aP 40, aI x3, aI (h 11 x1), aU, aU, aU, aU, aU, aU, aU, aU]) dX1_shortOf_6 (Nat.le_of_ble_eq_true rfl) rfl rfl ?_
  refine g_aload_n dX1_shortOf_8 rfl ?_
  refine g_iload dX1_shortOf_9 rfl ?_
  refine g_iload_n dX1_shortOf_11 rfl ?_
  refine g_callVI (n := 2) (As := [aI (h 11 x1), aI x1]) (st := []) dX1_shortOf_12 ml_X1_58 sh_10 rfl (al_10 hn) rfl rfl (Nat.le_of_ble_eq_true rfl) (RtI.mono w (fun r1 h1 w => ?_))
  refine g_istore (ls' := [aP 10, aI x1, aP 40, aI x3, aI (h 11 x1), aI r1, aU, aU, aU, aU, aU, aU, aU]) dX1_shortOf_15 (Nat.le_of_ble_eq_true rfl) rfl rfl ?_
  refine g_iload dX1_shortOf_17 rfl ?_
  refine g_iconst dX1_shortOf_19 ?_
  obtain ⟨o2, w⟩ := w
  refine g_cmp_ne (tgt := 25) dX1_shortOf_20 rfl o2 (by decide) ?_
  refine ite_imp (fun w => ?_) (fun w => ?_) w
  · refine g_aload_n dX1_shortOf_25 rfl ?_
    refine g_iload dX1_shortOf_26 rfl ?_
    refine g_callVI (n := 1) (As := [aI (h 11 x1)]) (st := []) dX1_shortOf_28 ml_X1_68 sh_10 rfl (al_10 hn) rfl rfl (Nat.le_of_ble_eq_true rfl) (RtI.mono w (fun r2 h2 w => ?_))
    refine g_istore (ls' := [aP 10, aI x1, aP 40, aI x3, aI (h 11 x1), aI r1, aI r2, aU, aU, aU, aU, aU, aU]) dX1_shortOf_31 (Nat.le_of_ble_eq_true rfl) rfl rfl ?_
    refine g_iload dX1_shortOf_33 rfl ?_
    refine g_iload dX1_shortOf_35 rfl ?_
    refine g_callSNI (n := 2) (As := [aI r1, aI r2]) (st := []) dX1_shortOf_37 ml_X1_65 rfl rfl (Nat.le_of_ble_eq_true rfl) (RtI.mono w (fun r3 h3 w => ?_))
    refine g_iload dX1_shortOf_40 rfl ?_
    refine g_imul dX1_shortOf_42 ?_
    refine g_istore (ls' := [aP 10, aI x1, aP 40, aI x3, aI (h 11 x1), aI r1, aI r2, aI (r3 * r2), aU, aU, aU, aU, aU]) dX1_shortOf_43 (Nat.le_of_ble_eq_true rfl) rfl rfl ?_
    refine g_iconst dX1_shortOf_45 ?_
    refine g_istore (ls' := [aP 10, aI x1, aP 40, aI x3, aI (h 11 x1), aI r1, aI r2, aI (r3 * r2), aI 0, aU, aU, aU, aU]) dX1_shortOf_46 (Nat.le_of_ble_eq_true rfl) rfl rfl ?_
    refine g_iconst dX1_shortOf_48 ?_
    refine g_istore (ls' := [aP 10, aI x1, aP 40, aI x3, aI (h 11 x1), aI r1, aI r2, aI (r3 * r2), aI 0, aI 0, aU, aU, aU]) dX1_shortOf_49 (Nat.le_of_ble_eq_true rfl) rfl rfl ?_
    refine g_iload dX1_shortOf_51 rfl ?_
    refine g_istore (ls' := [aP 10, aI x1, aP 40, aI x3, aI (h 11 x1), aI r1, aI r2, aI (r3 * r2), aI 0, aI 0, aI (r3 * r2), aU, aU]) dX1_shortOf_53 (Nat.le_of_ble_eq_true rfl) rfl rfl ?_
    exact g_sub (ls' := [aP 10, aI x1, aP 40, aI x3, aI (h 11 x1), aU, aI r2, aI (r3 * r2), aI 0, aI 0, aI (r3 * r2), aU, aU]) ⟨Or.inr rfl, Or.inr rfl, Or.inr rfl, Or.inr rfl, Or.inr rfl, Or.inl rfl, Or.inr rfl, Or.inr rfl, Or.inr rfl, Or.inr rfl, Or.inr rfl, Or.inl rfl, Or.inl rfl, trivial⟩ w
  · refine g_iconst dX1_shortOf_23 ?_
    exact g_retI dX1_shortOf_24 rfl w
theorem b_X1_everHad_3 {l : Launch} {D : Nat} {ζ : ZP} {h : HI} {Q : Int → HI → Prop} {x1 x2 x4 : Int} (hn : 144 ≤ ζ.2.2.2.2) (w : (rg x4) ∧ (rg (h 10 7)) ∧ (if (h 10 7) ≤ x4 then (RtI l D mX1_hadOn (zz ζ) [aP 10, aI x1, aI x2, aI 999, aP 22] h (fun r1 h1 => (r1 = 0 ∨ r1 = 1) ∧ Q r1 h1)) else ((0 ≤ x4 ∧ x4 < 30) ∧ (rg (h 17 x4)) ∧ (rg x1) ∧ (if ¬ (h 17 x4) = x1 then (G l (D + 1) 0 0 mX1_everHad (zz ζ) 3 [aP 10, aI x1, aI x2, aP 22, aI (x4 + 1)] [] h (qI (zz ζ) Q)) else ((0 ≤ (h 19 x4) ∧ (h 19 x4) < 60) ∧ (rg (h 22 (h 19 x4))) ∧ (rg x2) ∧ (if ¬ (h 22 (h 19 x4)) = x2 then (G l (D + 1) 0 0 mX1_everHad (zz ζ) 3 [aP 10, aI x1, aI x2, aP 22, aI (x4 + 1)] [] h (qI (zz ζ) Q)) else (Q 1 h))))))) : G l (D + 1) 0 0 mX1_everHad (zz ζ) 3 [aP 10, aI x1, aI x2, aP 22, aI x4] [] h (qI (zz ζ) Q) := by
  refine g_iload dX1_everHad_3 rfl ?_
  refine g_aload_n dX1_everHad_5 rfl ?_
  refine g_getI (J := 7) dX1_everHad_6 fl_X1_49 sh_10 (al_10 hn) (fun _ _ _ => rfl) rfl ?_
  obtain ⟨o1, w⟩ := w
  obtain ⟨o2, w⟩ := w
  refine g_cmp_ge (tgt := 44) dX1_everHad_9 rfl o1 o2 ?_
  refine ite_imp (fun w => ?_) (fun w => ?_) w
  · refine g_aload_n dX1_everHad_44 rfl ?_
    refine g_iload_n dX1_everHad_45 rfl ?_
    refine g_iload_n dX1_everHad_46 rfl ?_
    refine g_sipush dX1_everHad_47 rfl ?_
    refine g_aload_n dX1_everHad_50 rfl ?_
    refine g_callVI (n := 4) (As := [aI x1, aI x2, aI 999, aP 22]) (st := []) dX1_everHad_51 ml_X1_123 sh_10 rfl (al_10 hn) rfl rfl (Nat.le_of_ble_eq_true rfl) (RtI.mono w (fun r1 h1 w => ?_))
    obtain ⟨o3, w⟩ := w
    exact g_retZ dX1_everHad_54 rfl o3 w
  · refine g_aload_n dX1_everHad_12 rfl ?_
    refine g_getR dX1_everHad_13 fl_X1_30 sh_10 (al_10 hn) (fun _ _ _ => rfl) rf_10_8 ?_
    refine g_iload dX1_everHad_16 rfl ?_
    obtain ⟨o4, w⟩ := w
    refine g_iald dX1_everHad_18 sh_17 (al_17 hn) (Nat.le_of_ble_eq_true rfl) o4 ?_
    refine g_iload_n dX1_everHad_19 rfl ?_
    obtain ⟨o5, w⟩ := w
    obtain ⟨o6, w⟩ := w
    refine g_cmp_ne (tgt := 38) dX1_everHad_20 rfl o5 o6 ?_
    refine ite_imp (fun w => ?_) (fun w => ?_) w
    · refine g_iinc (ls' := [aP 10, aI x1, aI x2, aP 22, aI (x4 + 1)]) dX1_everHad_38 rfl (Nat.le_of_ble_eq_true rfl) rfl rfl ?_
      refine g_goto (tgt := 3) dX1_everHad_41 rfl ?_
      exact g_sub (ls' := [aP 10, aI x1, aI x2, aP 22, aI (x4 + 1)]) ⟨Or.inr rfl, Or.inr rfl, Or.inr rfl, Or.inr rfl, Or.inr rfl, trivial⟩ w
    · refine g_aload_n dX1_everHad_23 rfl ?_
      refine g_aload_n dX1_everHad_24 rfl ?_
      refine g_getR dX1_everHad_25 fl_X1_36 sh_10 (al_10 hn) (fun _ _ _ => rfl) rf_10_10 ?_
      refine g_iload dX1_everHad_28 rfl ?_
      refine g_iald dX1_everHad_30 sh_19 (al_19 hn) (Nat.le_of_ble_eq_true rfl) o4 ?_
      obtain ⟨o7, w⟩ := w
      refine g_iald dX1_everHad_31 sh_22 (al_22 hn) (Nat.le_of_ble_eq_true rfl) o7 ?_
      refine g_iload_n dX1_everHad_32 rfl ?_
      obtain ⟨o8, w⟩ := w
      obtain ⟨o9, w⟩ := w
      refine g_cmp_ne (tgt := 38) dX1_everHad_33 rfl o8 o9 ?_
      refine ite_imp (fun w => ?_) (fun w => ?_) w
      · refine g_iinc (ls' := [aP 10, aI x1, aI x2, aP 22, aI (x4 + 1)]) dX1_everHad_38 rfl (Nat.le_of_ble_eq_true rfl) rfl rfl ?_
        refine g_goto (tgt := 3) dX1_everHad_41 rfl ?_
        exact g_sub (ls' := [aP 10, aI x1, aI x2, aP 22, aI (x4 + 1)]) ⟨Or.inr rfl, Or.inr rfl, Or.inr rfl, Or.inr rfl, Or.inr rfl, trivial⟩ w
      · refine g_iconst dX1_everHad_36 ?_
        exact g_retZ dX1_everHad_37 rfl (Or.inr rfl) w
theorem e_X1_everHad {l : Launch} {D : Nat} {ζ : ZP} {h : HI} {Q : Int → HI → Prop} {x1 x2 : Int} (hn : 144 ≤ ζ.2.2.2.2) (w : G l (D + 1) 0 0 mX1_everHad (zz ζ) 3 [aP 10, aI x1, aI x2, aP 22, aI 0] [] h (qI (zz ζ) Q)) : RtI l (D + 1) mX1_everHad (zz ζ) [aP 10, aI x1, aI x2, aP 22] h Q := by
  refine RtI.of 1 pn_X1 [aP 10, aI x1, aI x2, aP 22, aU] rfl rfl ?_
  refine g_iconst dX1_everHad_0 ?_
  refine g_istore (ls' := [aP 10, aI x1, aI x2, aP 22, aI 0]) dX1_everHad_1 (Nat.le_of_ble_eq_true rfl) rfl rfl ?_
  exact g_sub (ls' := [aP 10, aI x1, aI x2, aP 22, aI 0]) ⟨Or.inr rfl, Or.inr rfl, Or.inr rfl, Or.inr rfl, Or.inr rfl, trivial⟩ w
theorem b_X1_hadOn_15 {l : Launch} {D : Nat} {ζ : ZP} {h : HI} {Q : Int → HI → Prop} {x1 x2 x3 x5 : Int} (hn : 144 ≤ ζ.2.2.2.2) (w : (0 ≤ x1 ∧ x1 < 10) ∧ (rg x5) ∧ (rg (h 13 x1)) ∧ (if (h 13 x1) ≤ x5 then (Q 0 h) else (RtI l D mX1_cellOn (zz ζ) [aP 10, aI x1, aI x5, aI x3] h (fun r1 h1 => (0 ≤ r1 ∧ r1 < 60) ∧ (rg (h1 22 r1)) ∧ (rg x2) ∧ (if ¬ (h1 22 r1) = x2 then (G l (D + 1) 0 0 mX1_hadOn (zz ζ) 15 [aP 10, aI x1, aI x2, aI x3, aP 22, aI (x5 + 1)] [] h1 (qI (zz ζ) Q)) else (Q 1 h1)))))) : G l (D + 1) 0 0 mX1_hadOn (zz ζ) 15 [aP 10, aI x1, aI x2, aI x3, aP 22, aI x5] [] h (qI (zz ζ) Q) := by
  refine g_iload dX1_hadOn_15 rfl ?_
  refine g_aload_n dX1_hadOn_17 rfl ?_
  refine g_getR dX1_hadOn_18 fl_X1_18 sh_10 (al_10 hn) (fun _ _ _ => rfl) rf_10_3 ?_
  refine g_iload_n dX1_hadOn_21 rfl ?_
  obtain ⟨o1, w⟩ := w
  refine g_iald dX1_hadOn_22 sh_13 (al_13 hn) (Nat.le_of_ble_eq_true rfl) o1 ?_
  obtain ⟨o2, w⟩ := w
  obtain ⟨o3, w⟩ := w
  refine g_cmp_ge (tgt := 49) dX1_hadOn_23 rfl o2 o3 ?_
  refine ite_imp (fun w => ?_) (fun w => ?_) w
  · refine g_iconst dX1_hadOn_49 ?_
    exact g_retZ dX1_hadOn_50 rfl (Or.inl rfl) w
  · refine g_aload dX1_hadOn_26 rfl ?_
    refine g_aload_n dX1_hadOn_28 rfl ?_
    refine g_iload_n dX1_hadOn_29 rfl ?_
    refine g_iload dX1_hadOn_30 rfl ?_
    refine g_iload_n dX1_hadOn_32 rfl ?_
    refine g_callVI (n := 3) (As := [aI x1, aI x5, aI x3]) (st := [aP 22]) dX1_hadOn_33 ml_X1_127 sh_10 rfl (al_10 hn) rfl rfl (Nat.le_of_ble_eq_true rfl) (RtI.mono w (fun r1 h1 w => ?_))
    obtain ⟨o4, w⟩ := w
    refine g_iald dX1_hadOn_36 sh_22 (al_22 hn) (Nat.le_of_ble_eq_true rfl) o4 ?_
    refine g_iload_n dX1_hadOn_37 rfl ?_
    obtain ⟨o5, w⟩ := w
    obtain ⟨o6, w⟩ := w
    refine g_cmp_ne (tgt := 43) dX1_hadOn_38 rfl o5 o6 ?_
    refine ite_imp (fun w => ?_) (fun w => ?_) w
    · refine g_iinc (ls' := [aP 10, aI x1, aI x2, aI x3, aP 22, aI (x5 + 1)]) dX1_hadOn_43 rfl (Nat.le_of_ble_eq_true rfl) rfl rfl ?_
      refine g_goto (tgt := 15) dX1_hadOn_46 rfl ?_
      exact g_sub (ls' := [aP 10, aI x1, aI x2, aI x3, aP 22, aI (x5 + 1)]) ⟨Or.inr rfl, Or.inr rfl, Or.inr rfl, Or.inr rfl, Or.inr rfl, Or.inr rfl, trivial⟩ w
    · refine g_iconst dX1_hadOn_41 ?_
      exact g_retZ dX1_hadOn_42 rfl (Or.inr rfl) w
theorem e_X1_hadOn {l : Launch} {D : Nat} {ζ : ZP} {h : HI} {Q : Int → HI → Prop} {x1 x2 x3 : Int} (hn : 144 ≤ ζ.2.2.2.2) (w : (0 ≤ x1 ∧ x1 < 10) ∧ (rg (h 15 x1)) ∧ (rg x3) ∧ (if (h 15 x1) ≤ x3 then (G l (D + 1) 0 0 mX1_hadOn (zz ζ) 15 [aP 10, aI x1, aI x2, aI x3, aP 22, aI 0] [] h (qI (zz ζ) Q)) else (Q 0 h))) : RtI l (D + 1) mX1_hadOn (zz ζ) [aP 10, aI x1, aI x2, aI x3, aP 22] h Q := by
  refine RtI.of 1 pn_X1 [aP 10, aI x1, aI x2, aI x3, aP 22, aU] rfl rfl ?_
  refine g_aload_n dX1_hadOn_0 rfl ?_
  refine g_getR dX1_hadOn_1 fl_X1_24 sh_10 (al_10 hn) (fun _ _ _ => rfl) rf_10_5 ?_
  refine g_iload_n dX1_hadOn_4 rfl ?_
  obtain ⟨o1, w⟩ := w
  refine g_iald dX1_hadOn_5 sh_15 (al_15 hn) (Nat.le_of_ble_eq_true rfl) o1 ?_
  refine g_iload_n dX1_hadOn_6 rfl ?_
  obtain ⟨o2, w⟩ := w
  obtain ⟨o3, w⟩ := w
  refine g_cmp_le (tgt := 12) dX1_hadOn_7 rfl o2 o3 ?_
  refine ite_imp (fun w => ?_) (fun w => ?_) w
  · refine g_iconst dX1_hadOn_12 ?_
    refine g_istore (ls' := [aP 10, aI x1, aI x2, aI x3, aP 22, aI 0]) dX1_hadOn_13 (Nat.le_of_ble_eq_true rfl) rfl rfl ?_
    exact g_sub (ls' := [aP 10, aI x1, aI x2, aI x3, aP 22, aI 0]) ⟨Or.inr rfl, Or.inr rfl, Or.inr rfl, Or.inr rfl, Or.inr rfl, Or.inr rfl, trivial⟩ w
  · refine g_iconst dX1_hadOn_10 ?_
    exact g_retZ dX1_hadOn_11 rfl (Or.inl rfl) w
theorem b_X1_cellOn_3 {l : Launch} {D : Nat} {ζ : ZP} {h : HI} {Q : Int → HI → Prop} {x1 x2 x3 x4 : Int} (hn : 144 ≤ ζ.2.2.2.2) (w : (rg x4) ∧ (rg (h 10 7)) ∧ (if (h 10 7) ≤ x4 then (RtI l D mX1_cellAt (zz ζ) [aP 10, aI x1, aI x2] h (fun r1 h1 => Q r1 h1)) else ((0 ≤ x4 ∧ x4 < 30) ∧ (rg (h 17 x4)) ∧ (rg x1) ∧ (if ¬ (h 17 x4) = x1 then (G l (D + 1) 0 0 mX1_cellOn (zz ζ) 3 [aP 10, aI x1, aI x2, aI x3, aI (x4 + 1)] [] h (qI (zz ζ) Q)) else ((rg (h 18 x4)) ∧ (rg x2) ∧ (if ¬ (h 18 x4) = x2 then (G l (D + 1) 0 0 mX1_cellOn (zz ζ) 3 [aP 10, aI x1, aI x2, aI x3, aI (x4 + 1)] [] h (qI (zz ζ) Q)) else ((rg (h 20 x4)) ∧ (rg x3) ∧ (if (h 20 x4) ≤ x3 then (G l (D + 1) 0 0 mX1_cellOn (zz ζ) 3 [aP 10, aI x1, aI x2, aI x3, aI (x4 + 1)] [] h (qI (zz ζ) Q)) else (Q (h 19 x4) h))))))))) : G l (D + 1) 0 0 mX1_cellOn (zz ζ) 3 [aP 10, aI x1, aI x2, aI x3, aI x4] [] h (qI (zz ζ) Q) := by
  refine g_iload dX1_cellOn_3 rfl ?_
  refine g_aload_n dX1_cellOn_5 rfl ?_
  refine g_getI (J := 7) dX1_cellOn_6 fl_X1_49 sh_10 (al_10 hn) (fun _ _ _ => rfl) rfl ?_
  obtain ⟨o1, w⟩ := w
  obtain ⟨o2, w⟩ := w
  refine g_cmp_ge (tgt := 59) dX1_cellOn_9 rfl o1 o2 ?_
  refine ite_imp (fun w => ?_) (fun w => ?_) w
  · refine g_aload_n dX1_cellOn_59 rfl ?_
    refine g_iload_n dX1_cellOn_60 rfl ?_
    refine g_iload_n dX1_cellOn_61 rfl ?_
    refine g_callVI (n := 2) (As := [aI x1, aI x2]) (st := []) dX1_cellOn_62 ml_X1_62 sh_10 rfl (al_10 hn) rfl rfl (Nat.le_of_ble_eq_true rfl) (RtI.mono w (fun r1 h1 w => ?_))
    exact g_retI dX1_cellOn_65 rfl w
  · refine g_aload_n dX1_cellOn_12 rfl ?_
    refine g_getR dX1_cellOn_13 fl_X1_30 sh_10 (al_10 hn) (fun _ _ _ => rfl) rf_10_8 ?_
    refine g_iload dX1_cellOn_16 rfl ?_
    obtain ⟨o3, w⟩ := w
    refine g_iald dX1_cellOn_18 sh_17 (al_17 hn) (Nat.le_of_ble_eq_true rfl) o3 ?_
    refine g_iload_n dX1_cellOn_19 rfl ?_
    obtain ⟨o4, w⟩ := w
    obtain ⟨o5, w⟩ := w
    refine g_cmp_ne (tgt := 53) dX1_cellOn_20 rfl o4 o5 ?_
    refine ite_imp (fun w => ?_) (fun w => ?_) w
    · refine g_iinc (ls' := [aP 10, aI x1, aI x2, aI x3, aI (x4 + 1)]) dX1_cellOn_53 rfl (Nat.le_of_ble_eq_true rfl) rfl rfl ?_
      refine g_goto (tgt := 3) dX1_cellOn_56 rfl ?_
      exact g_sub (ls' := [aP 10, aI x1, aI x2, aI x3, aI (x4 + 1)]) ⟨Or.inr rfl, Or.inr rfl, Or.inr rfl, Or.inr rfl, Or.inr rfl, trivial⟩ w
    · refine g_aload_n dX1_cellOn_23 rfl ?_
      refine g_getR dX1_cellOn_24 fl_X1_33 sh_10 (al_10 hn) (fun _ _ _ => rfl) rf_10_9 ?_
      refine g_iload dX1_cellOn_27 rfl ?_
      refine g_iald dX1_cellOn_29 sh_18 (al_18 hn) (Nat.le_of_ble_eq_true rfl) o3 ?_
      refine g_iload_n dX1_cellOn_30 rfl ?_
      obtain ⟨o6, w⟩ := w
      obtain ⟨o7, w⟩ := w
      refine g_cmp_ne (tgt := 53) dX1_cellOn_31 rfl o6 o7 ?_
      refine ite_imp (fun w => ?_) (fun w => ?_) w
      · refine g_iinc (ls' := [aP 10, aI x1, aI x2, aI x3, aI (x4 + 1)]) dX1_cellOn_53 rfl (Nat.le_of_ble_eq_true rfl) rfl rfl ?_
        refine g_goto (tgt := 3) dX1_cellOn_56 rfl ?_
        exact g_sub (ls' := [aP 10, aI x1, aI x2, aI x3, aI (x4 + 1)]) ⟨Or.inr rfl, Or.inr rfl, Or.inr rfl, Or.inr rfl, Or.inr rfl, trivial⟩ w
      · refine g_aload_n dX1_cellOn_34 rfl ?_
        refine g_getR dX1_cellOn_35 fl_X1_39 sh_10 (al_10 hn) (fun _ _ _ => rfl) rf_10_11 ?_
        refine g_iload dX1_cellOn_38 rfl ?_
        refine g_iald dX1_cellOn_40 sh_20 (al_20 hn) (Nat.le_of_ble_eq_true rfl) o3 ?_
        refine g_iload_n dX1_cellOn_41 rfl ?_
        obtain ⟨o8, w⟩ := w
        obtain ⟨o9, w⟩ := w
        refine g_cmp_le (tgt := 53) dX1_cellOn_42 rfl o8 o9 ?_
        refine ite_imp (fun w => ?_) (fun w => ?_) w
        · refine g_iinc (ls' := [aP 10, aI x1, aI x2, aI x3, aI (x4 + 1)]) dX1_cellOn_53 rfl (Nat.le_of_ble_eq_true rfl) rfl rfl ?_
          refine g_goto (tgt := 3) dX1_cellOn_56 rfl ?_
          exact g_sub (ls' := [aP 10, aI x1, aI x2, aI x3, aI (x4 + 1)]) ⟨Or.inr rfl, Or.inr rfl, Or.inr rfl, Or.inr rfl, Or.inr rfl, trivial⟩ w
        · refine g_aload_n dX1_cellOn_45 rfl ?_
          refine g_getR dX1_cellOn_46 fl_X1_36 sh_10 (al_10 hn) (fun _ _ _ => rfl) rf_10_10 ?_
          refine g_iload dX1_cellOn_49 rfl ?_
          refine g_iald dX1_cellOn_51 sh_19 (al_19 hn) (Nat.le_of_ble_eq_true rfl) o3 ?_
          exact g_retI dX1_cellOn_52 rfl w
theorem e_X1_cellOn {l : Launch} {D : Nat} {ζ : ZP} {h : HI} {Q : Int → HI → Prop} {x1 x2 x3 : Int} (hn : 144 ≤ ζ.2.2.2.2) (w : G l (D + 1) 0 0 mX1_cellOn (zz ζ) 3 [aP 10, aI x1, aI x2, aI x3, aI 0] [] h (qI (zz ζ) Q)) : RtI l (D + 1) mX1_cellOn (zz ζ) [aP 10, aI x1, aI x2, aI x3] h Q := by
  refine RtI.of 1 pn_X1 [aP 10, aI x1, aI x2, aI x3, aU] rfl rfl ?_
  refine g_iconst dX1_cellOn_0 ?_
  refine g_istore (ls' := [aP 10, aI x1, aI x2, aI x3, aI 0]) dX1_cellOn_1 (Nat.le_of_ble_eq_true rfl) rfl rfl ?_
  exact g_sub (ls' := [aP 10, aI x1, aI x2, aI x3, aI 0]) ⟨Or.inr rfl, Or.inr rfl, Or.inr rfl, Or.inr rfl, Or.inr rfl, trivial⟩ w
