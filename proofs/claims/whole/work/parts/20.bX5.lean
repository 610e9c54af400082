theorem e_X5_renew {l : Launch} {D : Nat} {ζ : ZP} {h : HI} {Q : HI → Prop} (hn : 144 ≤ ζ.2.2.2.2) (w : RtV l D mX0_copyFrom (zz ζ) [aP 4, aP 34] h (fun h1 => RtV l D mX1_clear (zz ζ) [aP 10] (hu (hu h1 8 1 0) 8 2 0) (fun h2 => Q (hu (hu (hu h2 3 3 0) 3 5 0) 3 10 0)))) : RtV l (D + 1) mX5_renew (zz ζ) [aP 3, aP 34] h Q := by
  refine RtV.of 0 pn_X5 [aP 3, aP 34] rfl rfl ?_
  refine g_aload_n dX5_renew_0 rfl ?_
  refine g_getR dX5_renew_1 fl_X5_12 sh_3 (al_3 hn) (fun _ _ _ => rfl) rf_3_0 ?_
  refine g_aload_n dX5_renew_4 rfl ?_
  refine g_callVV (n := 1) (As := [aP 34]) (st := []) dX5_renew_5 ml_X5_66 sh_4 rfl (al_4 hn) rfl rfl (Nat.le_of_ble_eq_true rfl) (RtV.mono w (fun h1 w => ?_))
  refine g_aload_n dX5_renew_8 rfl ?_
  refine g_getR dX5_renew_9 fl_X5_21 sh_3 (al_3 hn) (fun _ _ _ => rfl) rf_3_1 ?_
  refine g_iconst dX5_renew_12 ?_
  refine g_putI (J := 1) dX5_renew_13 fl_X5_70 sh_8 (al_8 hn) rfl rfl ?_
  refine g_aload_n dX5_renew_16 rfl ?_
  refine g_getR dX5_renew_17 fl_X5_21 sh_3 (al_3 hn) (fun _ _ _ => rfl) rf_3_1 ?_
  refine g_iconst dX5_renew_20 ?_
  refine g_putI (J := 2) dX5_renew_21 fl_X5_74 sh_8 (al_8 hn) rfl rfl ?_
  refine g_aload_n dX5_renew_24 rfl ?_
  refine g_getR dX5_renew_25 fl_X5_28 sh_3 (al_3 hn) (fun _ _ _ => rfl) rf_3_2 ?_
  refine g_callVV (n := 0) (As := []) (st := []) dX5_renew_28 ml_X5_77 sh_10 rfl (al_10 hn) rfl rfl (Nat.le_of_ble_eq_true rfl) (RtV.mono w (fun h2 w => ?_))
  refine g_aload_n dX5_renew_31 rfl ?_
  refine g_iconst dX5_renew_32 ?_
  refine g_putI (J := 3) dX5_renew_33 fl_X5_80 sh_3 (al_3 hn) rfl rfl ?_
  refine g_aload_n dX5_renew_36 rfl ?_
  refine g_iconst dX5_renew_37 ?_
  refine g_putI (J := 5) dX5_renew_38 fl_X5_83 sh_3 (al_3 hn) rfl rfl ?_
  refine g_aload_n dX5_renew_41 rfl ?_
  refine g_iconst dX5_renew_42 ?_
  refine g_putI (J := 10) dX5_renew_43 fl_X5_86 sh_3 (al_3 hn) rfl rfl ?_
  exact g_retV dX5_renew_46 rfl w
theorem e_X5_copyFrom_in {l : Launch} {D : Nat} {ζ : ZP} {h : HI} {Q : HI → Prop} {u : Nat} (hn : 144 ≤ ζ.2.2.2.2) (hu0 : isU u) (hun : u + 30 ≤ ζ.2.2.2.2) (w : RtV l D mX0_copyFrom (zz ζ) [aP 4, aP (u + 1)] h (fun h1 => RtV l D mX3_copyFrom (zz ζ) [aP 8, aP (u + 5)] h1 (fun h2 => RtV l D mX1_copyFrom (zz ζ) [aP 10, aP (u + 7)] h2 (fun h3 => Q (hcp (hcp (hcp (hcp (hcp (hcp (hu (hcp (hcp (hcp (hcp (hu (hcp (hu h3 3 3 (h3 u 3)) (u + 19) 0 22 0 60) 3 5 ((hcp (hu h3 3 3 (h3 u 3)) (u + 19) 0 22 0 60) u 5)) (u + 20) 0 23 0 200) (u + 21) 0 24 0 200) (u + 22) 0 25 0 200) (u + 23) 0 26 0 200) 3 10 ((hcp (hcp (hcp (hcp (hu (hcp (hu h3 3 3 (h3 u 3)) (u + 19) 0 22 0 60) 3 5 ((hcp (hu h3 3 3 (h3 u 3)) (u + 19) 0 22 0 60) u 5)) (u + 20) 0 23 0 200) (u + 21) 0 24 0 200) (u + 22) 0 25 0 200) (u + 23) 0 26 0 200) u 10)) (u + 24) 0 27 0 60) (u + 25) 0 28 0 60) (u + 26) 0 29 0 60) (u + 27) 0 30 0 60) (u + 28) 0 31 0 60) (u + 29) 0 32 0 60))))) : RtV l (D + 1) mX5_copyFrom (zz ζ) [aP 3, aP u] h Q := by
  refine RtV.of 0 pn_X5 [aP 3, aP u] rfl rfl ?_
  refine g_aload_n dX5_copyFrom_0 rfl ?_
  refine g_getR dX5_copyFrom_1 fl_X5_12 sh_3 (al_3 hn) (fun _ _ _ => rfl) rf_3_0 ?_
  refine g_aload_n dX5_copyFrom_4 rfl ?_
  refine g_getR dX5_copyFrom_5 fl_X5_12 (shu_0 hu0) (alu_0 hun) (fun _ _ _ => rfl) (rfu_0_0 hu0) ?_
  refine g_callVV (n := 1) (As := [aP (u + 1)]) (st := []) dX5_copyFrom_8 ml_X5_66 sh_4 rfl (al_4 hn) rfl rfl (Nat.le_of_ble_eq_true rfl) (RtV.mono w (fun h1 w => ?_))
  refine g_aload_n dX5_copyFrom_11 rfl ?_
  refine g_getR dX5_copyFrom_12 fl_X5_21 sh_3 (al_3 hn) (fun _ _ _ => rfl) rf_3_1 ?_
  refine g_aload_n dX5_copyFrom_15 rfl ?_
  refine g_getR dX5_copyFrom_16 fl_X5_21 (shu_0 hu0) (alu_0 hun) (fun _ _ _ => rfl) (rfu_0_1 hu0) ?_
  refine g_callVV (n := 1) (As := [aP (u + 5)]) (st := []) dX5_copyFrom_19 ml_X5_89 sh_8 rfl (al_8 hn) rfl rfl (Nat.le_of_ble_eq_true rfl) (RtV.mono w (fun h2 w => ?_))
  refine g_aload_n dX5_copyFrom_22 rfl ?_
  refine g_getR dX5_copyFrom_23 fl_X5_28 sh_3 (al_3 hn) (fun _ _ _ => rfl) rf_3_2 ?_
  refine g_aload_n dX5_copyFrom_26 rfl ?_
  refine g_getR dX5_copyFrom_27 fl_X5_28 (shu_0 hu0) (alu_0 hun) (fun _ _ _ => rfl) (rfu_0_2 hu0) ?_
  refine g_callVV (n := 1) (As := [aP (u + 7)]) (st := []) dX5_copyFrom_30 ml_X5_92 sh_10 rfl (al_10 hn) rfl rfl (Nat.le_of_ble_eq_true rfl) (RtV.mono w (fun h3 w => ?_))
  refine g_aload_n dX5_copyFrom_33 rfl ?_
  refine g_aload_n dX5_copyFrom_34 rfl ?_
  refine g_getI (J := 3) dX5_copyFrom_35 fl_X5_80 (shu_0 hu0) (alu_0 hun) (fun _ _ _ => rfl) rfl ?_
  refine g_putI (J := 3) dX5_copyFrom_38 fl_X5_80 sh_3 (al_3 hn) rfl rfl ?_
  refine g_aload_n dX5_copyFrom_41 rfl ?_
  refine g_getR dX5_copyFrom_42 fl_X5_32 (shu_0 hu0) (alu_0 hun) (fun _ _ _ => rfl) (rfu_0_4 hu0) ?_
  refine g_iconst dX5_copyFrom_45 ?_
  refine g_aload_n dX5_copyFrom_46 rfl ?_
  refine g_getR dX5_copyFrom_47 fl_X5_32 sh_3 (al_3 hn) (fun _ _ _ => rfl) rf_3_4 ?_
  refine g_iconst dX5_copyFrom_50 ?_
  refine g_bipush dX5_copyFrom_51 rfl ?_
  refine g_copy dX5_copyFrom_53 cw_X5_95 (Nat.le_of_ble_eq_true rfl) (shu_19 hu0) (alu_19 hun) sh_22 (al_22 hn) (Nat.le_of_ble_eq_true rfl) (Nat.le_of_ble_eq_true rfl) (by decide) ?_
  refine g_aload_n dX5_copyFrom_56 rfl ?_
  refine g_aload_n dX5_copyFrom_57 rfl ?_
  refine g_getI (J := 5) dX5_copyFrom_58 fl_X5_83 (shu_0 hu0) (alu_0 hun) (fun _ _ _ => rfl) rfl ?_
  refine g_putI (J := 5) dX5_copyFrom_61 fl_X5_83 sh_3 (al_3 hn) rfl rfl ?_
  refine g_aload_n dX5_copyFrom_64 rfl ?_
  refine g_getR dX5_copyFrom_65 fl_X5_36 (shu_0 hu0) (alu_0 hun) (fun _ _ _ => rfl) (rfu_0_6 hu0) ?_
  refine g_iconst dX5_copyFrom_68 ?_
  refine g_aload_n dX5_copyFrom_69 rfl ?_
  refine g_getR dX5_copyFrom_70 fl_X5_36 sh_3 (al_3 hn) (fun _ _ _ => rfl) rf_3_6 ?_
  refine g_iconst dX5_copyFrom_73 ?_
  refine g_sipush dX5_copyFrom_74 rfl ?_
  refine g_copy dX5_copyFrom_77 cw_X5_95 (Nat.le_of_ble_eq_true rfl) (shu_20 hu0) (alu_20 hun) sh_23 (al_23 hn) (Nat.le_of_ble_eq_true rfl) (Nat.le_of_ble_eq_true rfl) (by decide) ?_
  refine g_aload_n dX5_copyFrom_80 rfl ?_
  refine g_getR dX5_copyFrom_81 fl_X5_39 (shu_0 hu0) (alu_0 hun) (fun _ _ _ => rfl) (rfu_0_7 hu0) ?_
  refine g_iconst dX5_copyFrom_84 ?_
  refine g_aload_n dX5_copyFrom_85 rfl ?_
  refine g_getR dX5_copyFrom_86 fl_X5_39 sh_3 (al_3 hn) (fun _ _ _ => rfl) rf_3_7 ?_
  refine g_iconst dX5_copyFrom_89 ?_
  refine g_sipush dX5_copyFrom_90 rfl ?_
  refine g_copy dX5_copyFrom_93 cw_X5_95 (Nat.le_of_ble_eq_true rfl) (shu_21 hu0) (alu_21 hun) sh_24 (al_24 hn) (Nat.le_of_ble_eq_true rfl) (Nat.le_of_ble_eq_true rfl) (by decide) ?_
  refine g_aload_n dX5_copyFrom_96 rfl ?_
  refine g_getR dX5_copyFrom_97 fl_X5_42 (shu_0 hu0) (alu_0 hun) (fun _ _ _ => rfl) (rfu_0_8 hu0) ?_
  refine g_iconst dX5_copyFrom_100 ?_
  refine g_aload_n dX5_copyFrom_101 rfl ?_
  refine g_getR dX5_copyFrom_102 fl_X5_42 sh_3 (al_3 hn) (fun _ _ _ => rfl) rf_3_8 ?_
  refine g_iconst dX5_copyFrom_105 ?_
  refine g_sipush dX5_copyFrom_106 rfl ?_
  refine g_copy dX5_copyFrom_109 cw_X5_95 (Nat.le_of_ble_eq_true rfl) (shu_22 hu0) (alu_22 hun) sh_25 (al_25 hn) (Nat.le_of_ble_eq_true rfl) (Nat.le_of_ble_eq_true rfl) (by decide) ?_
  refine g_aload_n dX5_copyFrom_112 rfl ?_
  refine g_getR dX5_copyFrom_113 fl_X5_45 (shu_0 hu0) (alu_0 hun) (fun _ _ _ => rfl) (rfu_0_9 hu0) ?_
  refine g_iconst dX5_copyFrom_116 ?_
  refine g_aload_n dX5_copyFrom_117 rfl ?_
  refine g_getR dX5_copyFrom_118 fl_X5_45 sh_3 (al_3 hn) (fun _ _ _ => rfl) rf_3_9 ?_
  refine g_iconst dX5_copyFrom_121 ?_
  refine g_sipush dX5_copyFrom_122 rfl ?_
  refine g_copy dX5_copyFrom_125 cw_X5_95 (Nat.le_of_ble_eq_true rfl) (shu_23 hu0) (alu_23 hun) sh_26 (al_26 hn) (Nat.le_of_ble_eq_true rfl) (Nat.le_of_ble_eq_true rfl) (by decide) ?_
  refine g_aload_n dX5_copyFrom_128 rfl ?_
  refine g_aload_n dX5_copyFrom_129 rfl ?_
  refine g_getI (J := 10) dX5_copyFrom_130 fl_X5_86 (shu_0 hu0) (alu_0 hun) (fun _ _ _ => rfl) rfl ?_
  refine g_putI (J := 10) dX5_copyFrom_133 fl_X5_86 sh_3 (al_3 hn) rfl rfl ?_
  refine g_aload_n dX5_copyFrom_136 rfl ?_
  refine g_getR dX5_copyFrom_137 fl_X5_48 (shu_0 hu0) (alu_0 hun) (fun _ _ _ => rfl) (rfu_0_11 hu0) ?_
  refine g_iconst dX5_copyFrom_140 ?_
  refine g_aload_n dX5_copyFrom_141 rfl ?_
  refine g_getR dX5_copyFrom_142 fl_X5_48 sh_3 (al_3 hn) (fun _ _ _ => rfl) rf_3_11 ?_
  refine g_iconst dX5_copyFrom_145 ?_
  refine g_bipush dX5_copyFrom_146 rfl ?_
  refine g_copy dX5_copyFrom_148 cw_X5_95 (Nat.le_of_ble_eq_true rfl) (shu_24 hu0) (alu_24 hun) sh_27 (al_27 hn) (Nat.le_of_ble_eq_true rfl) (Nat.le_of_ble_eq_true rfl) (by decide) ?_
  refine g_aload_n dX5_copyFrom_151 rfl ?_
  refine g_getR dX5_copyFrom_152 fl_X5_51 (shu_0 hu0) (alu_0 hun) (fun _ _ _ => rfl) (rfu_0_12 hu0) ?_
  refine g_iconst dX5_copyFrom_155 ?_
  refine g_aload_n dX5_copyFrom_156 rfl ?_
  refine g_getR dX5_copyFrom_157 fl_X5_51 sh_3 (al_3 hn) (fun _ _ _ => rfl) rf_3_12 ?_
  refine g_iconst dX5_copyFrom_160 ?_
  refine g_bipush dX5_copyFrom_161 rfl ?_
  refine g_copy dX5_copyFrom_163 cw_X5_95 (Nat.le_of_ble_eq_true rfl) (shu_25 hu0) (alu_25 hun) sh_28 (al_28 hn) (Nat.le_of_ble_eq_true rfl) (Nat.le_of_ble_eq_true rfl) (by decide) ?_
  refine g_aload_n dX5_copyFrom_166 rfl ?_
  refine g_getR dX5_copyFrom_167 fl_X5_54 (shu_0 hu0) (alu_0 hun) (fun _ _ _ => rfl) (rfu_0_13 hu0) ?_
  refine g_iconst dX5_copyFrom_170 ?_
  refine g_aload_n dX5_copyFrom_171 rfl ?_
  refine g_getR dX5_copyFrom_172 fl_X5_54 sh_3 (al_3 hn) (fun _ _ _ => rfl) rf_3_13 ?_
  refine g_iconst dX5_copyFrom_175 ?_
  refine g_bipush dX5_copyFrom_176 rfl ?_
  refine g_copy dX5_copyFrom_178 cw_X5_95 (Nat.le_of_ble_eq_true rfl) (shu_26 hu0) (alu_26 hun) sh_29 (al_29 hn) (Nat.le_of_ble_eq_true rfl) (Nat.le_of_ble_eq_true rfl) (by decide) ?_
  refine g_aload_n dX5_copyFrom_181 rfl ?_
  refine g_getR dX5_copyFrom_182 fl_X5_57 (shu_0 hu0) (alu_0 hun) (fun _ _ _ => rfl) (rfu_0_14 hu0) ?_
  refine g_iconst dX5_copyFrom_185 ?_
  refine g_aload_n dX5_copyFrom_186 rfl ?_
  refine g_getR dX5_copyFrom_187 fl_X5_57 sh_3 (al_3 hn) (fun _ _ _ => rfl) rf_3_14 ?_
  refine g_iconst dX5_copyFrom_190 ?_
  refine g_bipush dX5_copyFrom_191 rfl ?_
  refine g_copy dX5_copyFrom_193 cw_X5_95 (Nat.le_of_ble_eq_true rfl) (shu_27 hu0) (alu_27 hun) sh_30 (al_30 hn) (Nat.le_of_ble_eq_true rfl) (Nat.le_of_ble_eq_true rfl) (by decide) ?_
  refine g_aload_n dX5_copyFrom_196 rfl ?_
  refine g_getR dX5_copyFrom_197 fl_X5_60 (shu_0 hu0) (alu_0 hun) (fun _ _ _ => rfl) (rfu_0_15 hu0) ?_
  refine g_iconst dX5_copyFrom_200 ?_
  refine g_aload_n dX5_copyFrom_201 rfl ?_
  refine g_getR dX5_copyFrom_202 fl_X5_60 sh_3 (al_3 hn) (fun _ _ _ => rfl) rf_3_15 ?_
  refine g_iconst dX5_copyFrom_205 ?_
  refine g_bipush dX5_copyFrom_206 rfl ?_
  refine g_copy dX5_copyFrom_208 cw_X5_95 (Nat.le_of_ble_eq_true rfl) (shu_28 hu0) (alu_28 hun) sh_31 (al_31 hn) (Nat.le_of_ble_eq_true rfl) (Nat.le_of_ble_eq_true rfl) (by decide) ?_
  refine g_aload_n dX5_copyFrom_211 rfl ?_
  refine g_getR dX5_copyFrom_212 fl_X5_63 (shu_0 hu0) (alu_0 hun) (fun _ _ _ => rfl) (rfu_0_16 hu0) ?_
  refine g_iconst dX5_copyFrom_215 ?_
  refine g_aload_n dX5_copyFrom_216 rfl ?_
  refine g_getR dX5_copyFrom_217 fl_X5_63 sh_3 (al_3 hn) (fun _ _ _ => rfl) rf_3_16 ?_
  refine g_iconst dX5_copyFrom_220 ?_
  refine g_bipush dX5_copyFrom_221 rfl ?_
  refine g_copy dX5_copyFrom_223 cw_X5_95 (Nat.le_of_ble_eq_true rfl) (shu_29 hu0) (alu_29 hun) sh_32 (al_32 hn) (Nat.le_of_ble_eq_true rfl) (Nat.le_of_ble_eq_true rfl) (by decide) ?_
  exact g_retV dX5_copyFrom_226 rfl w
theorem e_X5_copyFrom_out {l : Launch} {D : Nat} {ζ : ZP} {h : HI} {Q : HI → Prop} {u : Nat} (hn : 144 ≤ ζ.2.2.2.2) (hu0 : isU u) (hun : u + 30 ≤ ζ.2.2.2.2) (w : RtV l D mX0_copyFrom (zz ζ) [aP (u + 1), aP 4] h (fun h1 => RtV l D mX3_copyFrom (zz ζ) [aP (u + 5), aP 8] h1 (fun h2 => RtV l D mX1_copyFrom (zz ζ) [aP (u + 7), aP 10] h2 (fun h3 => Q (hcp (hcp (hcp (hcp (hcp (hcp (hu (hcp (hcp (hcp (hcp (hu (hcp (hu h3 u 3 (h3 3 3)) 22 0 (u + 19) 0 60) u 5 ((hcp (hu h3 u 3 (h3 3 3)) 22 0 (u + 19) 0 60) 3 5)) 23 0 (u + 20) 0 200) 24 0 (u + 21) 0 200) 25 0 (u + 22) 0 200) 26 0 (u + 23) 0 200) u 10 ((hcp (hcp (hcp (hcp (hu (hcp (hu h3 u 3 (h3 3 3)) 22 0 (u + 19) 0 60) u 5 ((hcp (hu h3 u 3 (h3 3 3)) 22 0 (u + 19) 0 60) 3 5)) 23 0 (u + 20) 0 200) 24 0 (u + 21) 0 200) 25 0 (u + 22) 0 200) 26 0 (u + 23) 0 200) 3 10)) 27 0 (u + 24) 0 60) 28 0 (u + 25) 0 60) 29 0 (u + 26) 0 60) 30 0 (u + 27) 0 60) 31 0 (u + 28) 0 60) 32 0 (u + 29) 0 60))))) : RtV l (D + 1) mX5_copyFrom (zz ζ) [aP u, aP 3] h Q := by
  refine RtV.of 0 pn_X5 [aP u, aP 3] rfl rfl ?_
  refine g_aload_n dX5_copyFrom_0 rfl ?_
  refine g_getR dX5_copyFrom_1 fl_X5_12 (shu_0 hu0) (alu_0 hun) (fun _ _ _ => rfl) (rfu_0_0 hu0) ?_
  refine g_aload_n dX5_copyFrom_4 rfl ?_
  refine g_getR dX5_copyFrom_5 fl_X5_12 sh_3 (al_3 hn) (fun _ _ _ => rfl) rf_3_0 ?_
  refine g_callVV (n := 1) (As := [aP 4]) (st := []) dX5_copyFrom_8 ml_X5_66 (shu_1 hu0) rfl (alu_1 hun) rfl rfl (Nat.le_of_ble_eq_true rfl) (RtV.mono w (fun h1 w => ?_))
  refine g_aload_n dX5_copyFrom_11 rfl ?_
  refine g_getR dX5_copyFrom_12 fl_X5_21 (shu_0 hu0) (alu_0 hun) (fun _ _ _ => rfl) (rfu_0_1 hu0) ?_
  refine g_aload_n dX5_copyFrom_15 rfl ?_
  refine g_getR dX5_copyFrom_16 fl_X5_21 sh_3 (al_3 hn) (fun _ _ _ => rfl) rf_3_1 ?_
  refine g_callVV (n := 1) (As := [aP 8]) (st := []) dX5_copyFrom_19 ml_X5_89 (shu_5 hu0) rfl (alu_5 hun) rfl rfl (Nat.le_of_ble_eq_true rfl) (RtV.mono w (fun h2 w => ?_))
  refine g_aload_n dX5_copyFrom_22 rfl ?_
  refine g_getR dX5_copyFrom_23 fl_X5_28 (shu_0 hu0) (alu_0 hun) (fun _ _ _ => rfl) (rfu_0_2 hu0) ?_
  refine g_aload_n dX5_copyFrom_26 rfl ?_
  refine g_getR dX5_copyFrom_27 fl_X5_28 sh_3 (al_3 hn) (fun _ _ _ => rfl) rf_3_2 ?_
  refine g_callVV (n := 1) (As := [aP 10]) (st := []) dX5_copyFrom_30 ml_X5_92 (shu_7 hu0) rfl (alu_7 hun) rfl rfl (Nat.le_of_ble_eq_true rfl) (RtV.mono w (fun h3 w => ?_))
  refine g_aload_n dX5_copyFrom_33 rfl ?_
  refine g_aload_n dX5_copyFrom_34 rfl ?_
  refine g_getI (J := 3) dX5_copyFrom_35 fl_X5_80 sh_3 (al_3 hn) (fun _ _ _ => rfl) rfl ?_
  refine g_putI (J := 3) dX5_copyFrom_38 fl_X5_80 (shu_0 hu0) (alu_0 hun) rfl rfl ?_
  refine g_aload_n dX5_copyFrom_41 rfl ?_
  refine g_getR dX5_copyFrom_42 fl_X5_32 sh_3 (al_3 hn) (fun _ _ _ => rfl) rf_3_4 ?_
  refine g_iconst dX5_copyFrom_45 ?_
  refine g_aload_n dX5_copyFrom_46 rfl ?_
  refine g_getR dX5_copyFrom_47 fl_X5_32 (shu_0 hu0) (alu_0 hun) (fun _ _ _ => rfl) (rfu_0_4 hu0) ?_
  refine g_iconst dX5_copyFrom_50 ?_
  refine g_bipush dX5_copyFrom_51 rfl ?_
  refine g_copy dX5_copyFrom_53 cw_X5_95 (Nat.le_of_ble_eq_true rfl) sh_22 (al_22 hn) (shu_19 hu0) (alu_19 hun) (Nat.le_of_ble_eq_true rfl) (Nat.le_of_ble_eq_true rfl) (by decide) ?_
  refine g_aload_n dX5_copyFrom_56 rfl ?_
  refine g_aload_n dX5_copyFrom_57 rfl ?_
  refine g_getI (J := 5) dX5_copyFrom_58 fl_X5_83 sh_3 (al_3 hn) (fun _ _ _ => rfl) rfl ?_
  refine g_putI (J := 5) dX5_copyFrom_61 fl_X5_83 (shu_0 hu0) (alu_0 hun) rfl rfl ?_
  refine g_aload_n dX5_copyFrom_64 rfl ?_
  refine g_getR dX5_copyFrom_65 fl_X5_36 sh_3 (al_3 hn) (fun _ _ _ => rfl) rf_3_6 ?_
  refine g_iconst dX5_copyFrom_68 ?_
  refine g_aload_n dX5_copyFrom_69 rfl ?_
  refine g_getR dX5_copyFrom_70 fl_X5_36 (shu_0 hu0) (alu_0 hun) (fun _ _ _ => rfl) (rfu_0_6 hu0) ?_
  refine g_iconst dX5_copyFrom_73 ?_
  refine g_sipush dX5_copyFrom_74 rfl ?_
  refine g_copy dX5_copyFrom_77 cw_X5_95 (Nat.le_of_ble_eq_true rfl) sh_23 (al_23 hn) (shu_20 hu0) (alu_20 hun) (Nat.le_of_ble_eq_true rfl) (Nat.le_of_ble_eq_true rfl) (by decide) ?_
  refine g_aload_n dX5_copyFrom_80 rfl ?_
  refine g_getR dX5_copyFrom_81 fl_X5_39 sh_3 (al_3 hn) (fun _ _ _ => rfl) rf_3_7 ?_
  refine g_iconst dX5_copyFrom_84 ?_
  refine g_aload_n dX5_copyFrom_85 rfl ?_
  refine g_getR dX5_copyFrom_86 fl_X5_39 (shu_0 hu0) (alu_0 hun) (fun _ _ _ => rfl) (rfu_0_7 hu0) ?_
  refine g_iconst dX5_copyFrom_89 ?_
  refine g_sipush dX5_copyFrom_90 rfl ?_
  refine g_copy dX5_copyFrom_93 cw_X5_95 (Nat.le_of_ble_eq_true rfl) sh_24 (al_24 hn) (shu_21 hu0) (alu_21 hun) (Nat.le_of_ble_eq_true rfl) (Nat.le_of_ble_eq_true rfl) (by decide) ?_
  refine g_aload_n dX5_copyFrom_96 rfl ?_
  refine g_getR dX5_copyFrom_97 fl_X5_42 sh_3 (al_3 hn) (fun _ _ _ => rfl) rf_3_8 ?_
  refine g_iconst dX5_copyFrom_100 ?_
  refine g_aload_n dX5_copyFrom_101 rfl ?_
  refine g_getR dX5_copyFrom_102 fl_X5_42 (shu_0 hu0) (alu_0 hun) (fun _ _ _ => rfl) (rfu_0_8 hu0) ?_
  refine g_iconst dX5_copyFrom_105 ?_
  refine g_sipush dX5_copyFrom_106 rfl ?_
  refine g_copy dX5_copyFrom_109 cw_X5_95 (Nat.le_of_ble_eq_true rfl) sh_25 (al_25 hn) (shu_22 hu0) (alu_22 hun) (Nat.le_of_ble_eq_true rfl) (Nat.le_of_ble_eq_true rfl) (by decide) ?_
  refine g_aload_n dX5_copyFrom_112 rfl ?_
  refine g_getR dX5_copyFrom_113 fl_X5_45 sh_3 (al_3 hn) (fun _ _ _ => rfl) rf_3_9 ?_
  refine g_iconst dX5_copyFrom_116 ?_
  refine g_aload_n dX5_copyFrom_117 rfl ?_
  refine g_getR dX5_copyFrom_118 fl_X5_45 (shu_0 hu0) (alu_0 hun) (fun _ _ _ => rfl) (rfu_0_9 hu0) ?_
  refine g_iconst dX5_copyFrom_121 ?_
  refine g_sipush dX5_copyFrom_122 rfl ?_
  refine g_copy dX5_copyFrom_125 cw_X5_95 (Nat.le_of_ble_eq_true rfl) sh_26 (al_26 hn) (shu_23 hu0) (alu_23 hun) (Nat.le_of_ble_eq_true rfl) (Nat.le_of_ble_eq_true rfl) (by decide) ?_
  refine g_aload_n dX5_copyFrom_128 rfl ?_
  refine g_aload_n dX5_copyFrom_129 rfl ?_
  refine g_getI (J := 10) dX5_copyFrom_130 fl_X5_86 sh_3 (al_3 hn) (fun _ _ _ => rfl) rfl ?_
  refine g_putI (J := 10) dX5_copyFrom_133 fl_X5_86 (shu_0 hu0) (alu_0 hun) rfl rfl ?_
  refine g_aload_n dX5_copyFrom_136 rfl ?_
  refine g_getR dX5_copyFrom_137 fl_X5_48 sh_3 (al_3 hn) (fun _ _ _ => rfl) rf_3_11 ?_
  refine g_iconst dX5_copyFrom_140 ?_
  refine g_aload_n dX5_copyFrom_141 rfl ?_
  refine g_getR dX5_copyFrom_142 fl_X5_48 (shu_0 hu0) (alu_0 hun) (fun _ _ _ => rfl) (rfu_0_11 hu0) ?_
  refine g_iconst dX5_copyFrom_145 ?_
  refine g_bipush dX5_copyFrom_146 rfl ?_
  refine g_copy dX5_copyFrom_148 cw_X5_95 (Nat.le_of_ble_eq_true rfl) sh_27 (al_27 hn) (shu_24 hu0) (alu_24 hun) (Nat.le_of_ble_eq_true rfl) (Nat.le_of_ble_eq_true rfl) (by decide) ?_
  refine g_aload_n dX5_copyFrom_151 rfl ?_
  refine g_getR dX5_copyFrom_152 fl_X5_51 sh_3 (al_3 hn) (fun _ _ _ => rfl) rf_3_12 ?_
  refine g_iconst dX5_copyFrom_155 ?_
  refine g_aload_n dX5_copyFrom_156 rfl ?_
  refine g_getR dX5_copyFrom_157 fl_X5_51 (shu_0 hu0) (alu_0 hun) (fun _ _ _ => rfl) (rfu_0_12 hu0) ?_
  refine g_iconst dX5_copyFrom_160 ?_
  refine g_bipush dX5_copyFrom_161 rfl ?_
  refine g_copy dX5_copyFrom_163 cw_X5_95 (Nat.le_of_ble_eq_true rfl) sh_28 (al_28 hn) (shu_25 hu0) (alu_25 hun) (Nat.le_of_ble_eq_true rfl) (Nat.le_of_ble_eq_true rfl) (by decide) ?_
  refine g_aload_n dX5_copyFrom_166 rfl ?_
  refine g_getR dX5_copyFrom_167 fl_X5_54 sh_3 (al_3 hn) (fun _ _ _ => rfl) rf_3_13 ?_
  refine g_iconst dX5_copyFrom_170 ?_
  refine g_aload_n dX5_copyFrom_171 rfl ?_
  refine g_getR dX5_copyFrom_172 fl_X5_54 (shu_0 hu0) (alu_0 hun) (fun _ _ _ => rfl) (rfu_0_13 hu0) ?_
  refine g_iconst dX5_copyFrom_175 ?_
  refine g_bipush dX5_copyFrom_176 rfl ?_
  refine g_copy dX5_copyFrom_178 cw_X5_95 (Nat.le_of_ble_eq_true rfl) sh_29 (al_29 hn) (shu_26 hu0) (alu_26 hun) (Nat.le_of_ble_eq_true rfl) (Nat.le_of_ble_eq_true rfl) (by decide) ?_
  refine g_aload_n dX5_copyFrom_181 rfl ?_
  refine g_getR dX5_copyFrom_182 fl_X5_57 sh_3 (al_3 hn) (fun _ _ _ => rfl) rf_3_14 ?_
  refine g_iconst dX5_copyFrom_185 ?_
  refine g_aload_n dX5_copyFrom_186 rfl ?_
  refine g_getR dX5_copyFrom_187 fl_X5_57 (shu_0 hu0) (alu_0 hun) (fun _ _ _ => rfl) (rfu_0_14 hu0) ?_
  refine g_iconst dX5_copyFrom_190 ?_
  refine g_bipush dX5_copyFrom_191 rfl ?_
  refine g_copy dX5_copyFrom_193 cw_X5_95 (Nat.le_of_ble_eq_true rfl) sh_30 (al_30 hn) (shu_27 hu0) (alu_27 hun) (Nat.le_of_ble_eq_true rfl) (Nat.le_of_ble_eq_true rfl) (by decide) ?_
  refine g_aload_n dX5_copyFrom_196 rfl ?_
  refine g_getR dX5_copyFrom_197 fl_X5_60 sh_3 (al_3 hn) (fun _ _ _ => rfl) rf_3_15 ?_
  refine g_iconst dX5_copyFrom_200 ?_
  refine g_aload_n dX5_copyFrom_201 rfl ?_
  refine g_getR dX5_copyFrom_202 fl_X5_60 (shu_0 hu0) (alu_0 hun) (fun _ _ _ => rfl) (rfu_0_15 hu0) ?_
  refine g_iconst dX5_copyFrom_205 ?_
  refine g_bipush dX5_copyFrom_206 rfl ?_
  refine g_copy dX5_copyFrom_208 cw_X5_95 (Nat.le_of_ble_eq_true rfl) sh_31 (al_31 hn) (shu_28 hu0) (alu_28 hun) (Nat.le_of_ble_eq_true rfl) (Nat.le_of_ble_eq_true rfl) (by decide) ?_
  refine g_aload_n dX5_copyFrom_211 rfl ?_
  refine g_getR dX5_copyFrom_212 fl_X5_63 sh_3 (al_3 hn) (fun _ _ _ => rfl) rf_3_16 ?_
  refine g_iconst dX5_copyFrom_215 ?_
  refine g_aload_n dX5_copyFrom_216 rfl ?_
  refine g_getR dX5_copyFrom_217 fl_X5_63 (shu_0 hu0) (alu_0 hun) (fun _ _ _ => rfl) (rfu_0_16 hu0) ?_
  refine g_iconst dX5_copyFrom_220 ?_
  refine g_bipush dX5_copyFrom_221 rfl ?_
  refine g_copy dX5_copyFrom_223 cw_X5_95 (Nat.le_of_ble_eq_true rfl) sh_32 (al_32 hn) (shu_29 hu0) (alu_29 hun) (Nat.le_of_ble_eq_true rfl) (Nat.le_of_ble_eq_true rfl) (by decide) ?_
  exact g_retV dX5_copyFrom_226 rfl w
theorem e_X5_hasCell {l : Launch} {D : Nat} {ζ : ZP} {h : HI} {Q : Int → HI → Prop} {x1 : Int} (hn : 144 ≤ ζ.2.2.2.2) (w : (rg x1) ∧ (if x1 < 0 then (Q 0 h) else ((rg (h 3 3)) ∧ (if (h 3 3) ≤ x1 then (Q 0 h) else (Q 1 h))))) : RtI l (D + 1) mX5_hasCell (zz ζ) [aP 3, aI x1] h Q := by
  refine RtI.of 0 pn_X5 [aP 3, aI x1] rfl rfl ?_
  refine g_iload_n dX5_hasCell_0 rfl ?_
  obtain ⟨o1, w⟩ := w
  refine g_if_lt (tgt := 16) dX5_hasCell_1 rfl o1 ?_
  refine ite_imp (fun w => ?_) (fun w => ?_) w
  · refine g_iconst dX5_hasCell_16 ?_
    exact g_retZ dX5_hasCell_17 rfl (Or.inl rfl) w
  · refine g_iload_n dX5_hasCell_4 rfl ?_
    refine g_aload_n dX5_hasCell_5 rfl ?_
    refine g_getI (J := 3) dX5_hasCell_6 fl_X5_80 sh_3 (al_3 hn) (fun _ _ _ => rfl) rfl ?_
    obtain ⟨o2, w⟩ := w
    refine g_cmp_ge (tgt := 16) dX5_hasCell_9 rfl o1 o2 ?_
    refine ite_imp (fun w => ?_) (fun w => ?_) w
    · refine g_iconst dX5_hasCell_16 ?_
      exact g_retZ dX5_hasCell_17 rfl (Or.inl rfl) w
    · refine g_iconst dX5_hasCell_12 ?_
      refine g_goto (tgt := 17) dX5_hasCell_13 rfl ?_
      exact g_retZ dX5_hasCell_17 rfl (Or.inr rfl) w
theorem e_X5_addCell {l : Launch} {D : Nat} {ζ : ZP} {h : HI} {Q : Int → HI → Prop} {x1 : Int} (hn : 144 ≤ ζ.2.2.2.2) (w : (rg (h 3 3)) ∧ (if (h 3 3) < 60 then ((0 ≤ (h 3 3) ∧ (h 3 3) < 60) ∧ Q (((h 3 3) + 1) - 1) (hu (hu (hu (hu (hu h 22 (h 3 3) x1) 27 (h 3 3) 0) 32 (h 3 3) 0) 11 (h 3 3) (-1)) 3 3 ((h 3 3) + 1))) else (Q (-1) h))) : RtI l (D + 1) mX5_addCell (zz ζ) [aP 3, aI x1] h Q := by
  refine RtI.of 0 pn_X5 [aP 3, aI x1] rfl rfl ?_
  refine g_aload_n dX5_addCell_0 rfl ?_
  refine g_getI (J := 3) dX5_addCell_1 fl_X5_80 sh_3 (al_3 hn) (fun _ _ _ => rfl) rfl ?_
  refine g_bipush dX5_addCell_4 rfl ?_
  obtain ⟨o1, w⟩ := w
  refine g_cmp_lt (tgt := 11) dX5_addCell_6 rfl o1 (by decide) ?_
  refine ite_imp (fun w => ?_) (fun w => ?_) w
  · refine g_aload_n dX5_addCell_11 rfl ?_
    refine g_getR dX5_addCell_12 fl_X5_32 sh_3 (al_3 hn) (fun _ _ _ => rfl) rf_3_4 ?_
    refine g_aload_n dX5_addCell_15 rfl ?_
    refine g_getI (J := 3) dX5_addCell_16 fl_X5_80 sh_3 (al_3 hn) (fun _ _ _ => rfl) rfl ?_
    refine g_iload_n dX5_addCell_19 rfl ?_
    obtain ⟨o2, w⟩ := w
    refine g_iast dX5_addCell_20 sh_22 (al_22 hn) (Nat.le_of_ble_eq_true rfl) o2 ?_
    refine g_aload_n dX5_addCell_21 rfl ?_
    refine g_getR dX5_addCell_22 fl_X5_48 sh_3 (al_3 hn) (fun _ _ _ => rfl) rf_3_11 ?_
    refine g_aload_n dX5_addCell_25 rfl ?_
    refine g_getI (J := 3) dX5_addCell_26 fl_X5_80 sh_3 (al_3 hn) (fun _ _ _ => rfl) rfl ?_
    refine g_iconst dX5_addCell_29 ?_
    refine g_iast dX5_addCell_30 sh_27 (al_27 hn) (Nat.le_of_ble_eq_true rfl) o2 ?_
    refine g_aload_n dX5_addCell_31 rfl ?_
    refine g_getR dX5_addCell_32 fl_X5_63 sh_3 (al_3 hn) (fun _ _ _ => rfl) rf_3_16 ?_
    refine g_aload_n dX5_addCell_35 rfl ?_
    refine g_getI (J := 3) dX5_addCell_36 fl_X5_80 sh_3 (al_3 hn) (fun _ _ _ => rfl) rfl ?_
    refine g_iconst dX5_addCell_39 ?_
    refine g_iast dX5_addCell_40 sh_32 (al_32 hn) (Nat.le_of_ble_eq_true rfl) o2 ?_
    refine g_aload_n dX5_addCell_41 rfl ?_
    refine g_getR dX5_addCell_42 fl_X5_28 sh_3 (al_3 hn) (fun _ _ _ => rfl) rf_3_2 ?_
    refine g_getR dX5_addCell_45 fl_X5_101 sh_10 (al_10 hn) (fun _ _ _ => rfl) rf_10_1 ?_
    refine g_aload_n dX5_addCell_48 rfl ?_
    refine g_getI (J := 3) dX5_addCell_49 fl_X5_80 sh_3 (al_3 hn) (fun _ _ _ => rfl) rfl ?_
    refine g_iconst dX5_addCell_52 ?_
    refine g_iast dX5_addCell_53 sh_11 (al_11 hn) (Nat.le_of_ble_eq_true rfl) o2 ?_
    refine g_aload_n dX5_addCell_54 rfl ?_
    refine g_dup dX5_addCell_55 rfl ?_
    refine g_getI (J := 3) dX5_addCell_56 fl_X5_80 sh_3 (al_3 hn) (fun _ _ _ => rfl) rfl ?_
    refine g_iconst dX5_addCell_59 ?_
    refine g_iadd dX5_addCell_60 ?_
    refine g_putI (J := 3) dX5_addCell_61 fl_X5_80 sh_3 (al_3 hn) rfl rfl ?_
    refine g_aload_n dX5_addCell_64 rfl ?_
    refine g_getI (J := 3) dX5_addCell_65 fl_X5_80 sh_3 (al_3 hn) (fun _ _ _ => rfl) rfl ?_
    refine g_iconst dX5_addCell_68 ?_
    refine g_isub dX5_addCell_69 ?_
    exact g_retI dX5_addCell_70 rfl w
  · refine g_iconst dX5_addCell_9 ?_
    exact g_retI dX5_addCell_10 rfl w
theorem e_X5_addReading {l : Launch} {D : Nat} {ζ : ZP} {h : HI} {Q : Int → HI → Prop} {x1 x2 x3 x4 : Int} (hn : 144 ≤ ζ.2.2.2.2) (w : (0 ≤ (h 3 5) ∧ (h 3 5) < 200) ∧ Q (((h 3 5) + 1) - 1) (hu (hu (hu (hu (hu h 23 (h 3 5) x1) 24 (h 3 5) x2) 25 (h 3 5) x3) 26 (h 3 5) x4) 3 5 ((h 3 5) + 1))) : RtI l (D + 1) mX5_addReading (zz ζ) [aP 3, aI x1, aI x2, aI x3, aI x4] h Q := by
  refine RtI.of 0 pn_X5 [aP 3, aI x1, aI x2, aI x3, aI x4] rfl rfl ?_
  refine g_aload_n dX5_addReading_0 rfl ?_
  refine g_getR dX5_addReading_1 fl_X5_36 sh_3 (al_3 hn) (fun _ _ _ => rfl) rf_3_6 ?_
  refine g_aload_n dX5_addReading_4 rfl ?_
  refine g_getI (J := 5) dX5_addReading_5 fl_X5_83 sh_3 (al_3 hn) (fun _ _ _ => rfl) rfl ?_
  refine g_iload_n dX5_addReading_8 rfl ?_
  obtain ⟨o1, w⟩ := w
  refine g_iast dX5_addReading_9 sh_23 (al_23 hn) (Nat.le_of_ble_eq_true rfl) o1 ?_
  refine g_aload_n dX5_addReading_10 rfl ?_
  refine g_getR dX5_addReading_11 fl_X5_39 sh_3 (al_3 hn) (fun _ _ _ => rfl) rf_3_7 ?_
  refine g_aload_n dX5_addReading_14 rfl ?_
  refine g_getI (J := 5) dX5_addReading_15 fl_X5_83 sh_3 (al_3 hn) (fun _ _ _ => rfl) rfl ?_
  refine g_iload_n dX5_addReading_18 rfl ?_
  refine g_iast dX5_addReading_19 sh_24 (al_24 hn) (Nat.le_of_ble_eq_true rfl) o1 ?_
  refine g_aload_n dX5_addReading_20 rfl ?_
  refine g_getR dX5_addReading_21 fl_X5_42 sh_3 (al_3 hn) (fun _ _ _ => rfl) rf_3_8 ?_
  refine g_aload_n dX5_addReading_24 rfl ?_
  refine g_getI (J := 5) dX5_addReading_25 fl_X5_83 sh_3 (al_3 hn) (fun _ _ _ => rfl) rfl ?_
  refine g_iload_n dX5_addReading_28 rfl ?_
  refine g_iast dX5_addReading_29 sh_25 (al_25 hn) (Nat.le_of_ble_eq_true rfl) o1 ?_
  refine g_aload_n dX5_addReading_30 rfl ?_
  refine g_getR dX5_addReading_31 fl_X5_45 sh_3 (al_3 hn) (fun _ _ _ => rfl) rf_3_9 ?_
  refine g_aload_n dX5_addReading_34 rfl ?_
  refine g_getI (J := 5) dX5_addReading_35 fl_X5_83 sh_3 (al_3 hn) (fun _ _ _ => rfl) rfl ?_
  refine g_iload dX5_addReading_38 rfl ?_
  refine g_iast dX5_addReading_40 sh_26 (al_26 hn) (Nat.le_of_ble_eq_true rfl) o1 ?_
  refine g_aload_n dX5_addReading_41 rfl ?_
  refine g_dup dX5_addReading_42 rfl ?_
  refine g_getI (J := 5) dX5_addReading_43 fl_X5_83 sh_3 (al_3 hn) (fun _ _ _ => rfl) rfl ?_
  refine g_iconst dX5_addReading_46 ?_
  refine g_iadd dX5_addReading_47 ?_
  refine g_putI (J := 5) dX5_addReading_48 fl_X5_83 sh_3 (al_3 hn) rfl rfl ?_
  refine g_aload_n dX5_addReading_51 rfl ?_
  refine g_getI (J := 5) dX5_addReading_52 fl_X5_83 sh_3 (al_3 hn) (fun _ _ _ => rfl) rfl ?_
  refine g_iconst dX5_addReading_55 ?_
  refine g_isub dX5_addReading_56 ?_
  exact g_retI dX5_addReading_57 rfl w
theorem b_X5_addRest_66 {l : Launch} {D : Nat} {ζ : ZP} {h : HI} {Q : Int → HI → Prop} {x1 x2 x3 x4 : Int} (hn : 144 ≤ ζ.2.2.2.2) (w : (rg x4) ∧ (rg (h 7 8)) ∧ (if x4 < (h 7 8) then ((0 ≤ x1 ∧ x1 < 60) ∧ Q (((h 3 10) + 1) - 1) (hu (hu (hu (hu h 30 x1 x2) 31 x1 x3) 27 x1 ((h 27 x1) + 1)) 3 10 ((h 3 10) + 1))) else ((0 ≤ x1 ∧ x1 < 60) ∧ Q (((h 3 10) + 1) - 1) (hu (hu (hu (hu (hu h 32 x1 (bor (h 32 x1) 4)) 30 x1 x2) 31 x1 x3) 27 x1 ((h 27 x1) + 1)) 3 10 ((h 3 10) + 1))))) : G l (D + 1) 0 0 mX5_addRest (zz ζ) 66 [aP 3, aI x1, aI x2, aI x3, aI x4] [] h (qI (zz ζ) Q) := by
  refine g_iload dX5_addRest_66 rfl ?_
  refine g_aload_n dX5_addRest_68 rfl ?_
  refine g_getR dX5_addRest_69 fl_X5_12 sh_3 (al_3 hn) (fun _ _ _ => rfl) rf_3_0 ?_
  refine g_getR dX5_addRest_72 fl_X5_104 sh_4 (al_4 hn) (fun _ _ _ => rfl) rf_4_2 ?_
  refine g_bipush dX5_addRest_75 rfl ?_
  refine g_iald dX5_addRest_77 sh_7 (al_7 hn) (Nat.le_of_ble_eq_true rfl) (by decide) ?_
  obtain ⟨o1, w⟩ := w
  obtain ⟨o2, w⟩ := w
  refine g_cmp_lt (tgt := 91) dX5_addRest_78 rfl o1 o2 ?_
  refine ite_imp (fun w => ?_) (fun w => ?_) w
  · refine g_aload_n dX5_addRest_91 rfl ?_
    refine g_getR dX5_addRest_92 fl_X5_57 sh_3 (al_3 hn) (fun _ _ _ => rfl) rf_3_14 ?_
    refine g_iload_n dX5_addRest_95 rfl ?_
    refine g_iload_n dX5_addRest_96 rfl ?_
    obtain ⟨o3, w⟩ := w
    refine g_iast dX5_addRest_97 sh_30 (al_30 hn) (Nat.le_of_ble_eq_true rfl) o3 ?_
    refine g_aload_n dX5_addRest_98 rfl ?_
    refine g_getR dX5_addRest_99 fl_X5_60 sh_3 (al_3 hn) (fun _ _ _ => rfl) rf_3_15 ?_
    refine g_iload_n dX5_addRest_102 rfl ?_
    refine g_iload_n dX5_addRest_103 rfl ?_
    refine g_iast dX5_addRest_104 sh_31 (al_31 hn) (Nat.le_of_ble_eq_true rfl) o3 ?_
    refine g_aload_n dX5_addRest_105 rfl ?_
    refine g_getR dX5_addRest_106 fl_X5_48 sh_3 (al_3 hn) (fun _ _ _ => rfl) rf_3_11 ?_
    refine g_iload_n dX5_addRest_109 rfl ?_
    refine g_dup2 dX5_addRest_110 rfl rfl ?_
    refine g_iald dX5_addRest_111 sh_27 (al_27 hn) (Nat.le_of_ble_eq_true rfl) o3 ?_
    refine g_iconst dX5_addRest_112 ?_
    refine g_iadd dX5_addRest_113 ?_
    refine g_iast dX5_addRest_114 sh_27 (al_27 hn) (Nat.le_of_ble_eq_true rfl) o3 ?_
    refine g_aload_n dX5_addRest_115 rfl ?_
    refine g_dup dX5_addRest_116 rfl ?_
    refine g_getI (J := 10) dX5_addRest_117 fl_X5_86 sh_3 (al_3 hn) (fun _ _ _ => rfl) rfl ?_
    refine g_iconst dX5_addRest_120 ?_
    refine g_iadd dX5_addRest_121 ?_
    refine g_putI (J := 10) dX5_addRest_122 fl_X5_86 sh_3 (al_3 hn) rfl rfl ?_
    refine g_aload_n dX5_addRest_125 rfl ?_
    refine g_getI (J := 10) dX5_addRest_126 fl_X5_86 sh_3 (al_3 hn) (fun _ _ _ => rfl) rfl ?_
    refine g_iconst dX5_addRest_129 ?_
    refine g_isub dX5_addRest_130 ?_
    exact g_retI dX5_addRest_131 rfl w
  · refine g_aload_n dX5_addRest_81 rfl ?_
    refine g_getR dX5_addRest_82 fl_X5_63 sh_3 (al_3 hn) (fun _ _ _ => rfl) rf_3_16 ?_
    refine g_iload_n dX5_addRest_85 rfl ?_
    refine g_dup2 dX5_addRest_86 rfl rfl ?_
    obtain ⟨o4, w⟩ := w
    refine g_iald dX5_addRest_87 sh_32 (al_32 hn) (Nat.le_of_ble_eq_true rfl) o4 ?_
    refine g_iconst dX5_addRest_88 ?_
    refine g_ior dX5_addRest_89 ?_
    refine g_iast dX5_addRest_90 sh_32 (al_32 hn) (Nat.le_of_ble_eq_true rfl) o4 ?_
    refine g_aload_n dX5_addRest_91 rfl ?_
    refine g_getR dX5_addRest_92 fl_X5_57 sh_3 (al_3 hn) (fun _ _ _ => rfl) rf_3_14 ?_
    refine g_iload_n dX5_addRest_95 rfl ?_
    refine g_iload_n dX5_addRest_96 rfl ?_
    refine g_iast dX5_addRest_97 sh_30 (al_30 hn) (Nat.le_of_ble_eq_true rfl) o4 ?_
    refine g_aload_n dX5_addRest_98 rfl ?_
    refine g_getR dX5_addRest_99 fl_X5_60 sh_3 (al_3 hn) (fun _ _ _ => rfl) rf_3_15 ?_
    refine g_iload_n dX5_addRest_102 rfl ?_
    refine g_iload_n dX5_addRest_103 rfl ?_
    refine g_iast dX5_addRest_104 sh_31 (al_31 hn) (Nat.le_of_ble_eq_true rfl) o4 ?_
    refine g_aload_n dX5_addRest_105 rfl ?_
    refine g_getR dX5_addRest_106 fl_X5_48 sh_3 (al_3 hn) (fun _ _ _ => rfl) rf_3_11 ?_
    refine g_iload_n dX5_addRest_109 rfl ?_
    refine g_dup2 dX5_addRest_110 rfl rfl ?_
    refine g_iald dX5_addRest_111 sh_27 (al_27 hn) (Nat.le_of_ble_eq_true rfl) o4 ?_
    refine g_iconst dX5_addRest_112 ?_
    refine g_iadd dX5_addRest_113 ?_
    refine g_iast dX5_addRest_114 sh_27 (al_27 hn) (Nat.le_of_ble_eq_true rfl) o4 ?_
    refine g_aload_n dX5_addRest_115 rfl ?_
    refine g_dup dX5_addRest_116 rfl ?_
    refine g_getI (J := 10) dX5_addRest_117 fl_X5_86 sh_3 (al_3 hn) (fun _ _ _ => rfl) rfl ?_
    refine g_iconst dX5_addRest_120 ?_
    refine g_iadd dX5_addRest_121 ?_
    refine g_putI (J := 10) dX5_addRest_122 fl_X5_86 sh_3 (al_3 hn) rfl rfl ?_
    refine g_aload_n dX5_addRest_125 rfl ?_
    refine g_getI (J := 10) dX5_addRest_126 fl_X5_86 sh_3 (al_3 hn) (fun _ _ _ => rfl) rfl ?_
    refine g_iconst dX5_addRest_129 ?_
    refine g_isub dX5_addRest_130 ?_
    exact g_retI dX5_addRest_131 rfl w
theorem e_X5_addRest {l : Launch} {D : Nat} {ζ : ZP} {h : HI} {Q : Int → HI → Prop} {x1 x2 x3 x4 : Int} (hn : 144 ≤ ζ.2.2.2.2) (w : (0 ≤ x1 ∧ x1 < 60) ∧ (rg (h 27 x1)) ∧ (if ¬ (h 27 x1) = 0 then ((rg ((h 31 x1) - x3)) ∧ (rg ((h 7 7) * (x2 - (h 30 x1)))) ∧ (if ((h 31 x1) - x3) ≤ ((h 7 7) * (x2 - (h 30 x1))) then (G l (D + 1) 0 0 mX5_addRest (zz ζ) 66 [aP 3, aI x1, aI x2, aI x3, aI x4] [] h (qI (zz ζ) Q)) else (G l (D + 1) 0 0 mX5_addRest (zz ζ) 66 [aP 3, aI x1, aI x2, aI x3, aI x4] [] (hu h 32 x1 (bor (h 32 x1) 2)) (qI (zz ζ) Q)))) else (G l (D + 1) 0 0 mX5_addRest (zz ζ) 66 [aP 3, aI x1, aI x2, aI x3, aI x4] [] (hu (hu h 28 x1 x2) 29 x1 x3) (qI (zz ζ) Q)))) : RtI l (D + 1) mX5_addRest (zz ζ) [aP 3, aI x1, aI x2, aI x3, aI x4] h Q := by
  refine RtI.of 0 pn_X5 [aP 3, aI x1, aI x2, aI x3, aI x4] rfl rfl ?_
  refine g_aload_n dX5_addRest_0 rfl ?_
  refine g_getR dX5_addRest_1 fl_X5_48 sh_3 (al_3 hn) (fun _ _ _ => rfl) rf_3_11 ?_
  refine g_iload_n dX5_addRest_4 rfl ?_
  obtain ⟨o1, w⟩ := w
  refine g_iald dX5_addRest_5 sh_27 (al_27 hn) (Nat.le_of_ble_eq_true rfl) o1 ?_
  obtain ⟨o2, w⟩ := w
  refine g_if_ne (tgt := 26) dX5_addRest_6 rfl o2 ?_
  refine ite_imp (fun w => ?_) (fun w => ?_) w
  · refine g_aload_n dX5_addRest_26 rfl ?_
    refine g_getR dX5_addRest_27 fl_X5_60 sh_3 (al_3 hn) (fun _ _ _ => rfl) rf_3_15 ?_
    refine g_iload_n dX5_addRest_30 rfl ?_
    refine g_iald dX5_addRest_31 sh_31 (al_31 hn) (Nat.le_of_ble_eq_true rfl) o1 ?_
    refine g_iload_n dX5_addRest_32 rfl ?_
    refine g_isub dX5_addRest_33 ?_
    refine g_aload_n dX5_addRest_34 rfl ?_
    refine g_getR dX5_addRest_35 fl_X5_12 sh_3 (al_3 hn) (fun _ _ _ => rfl) rf_3_0 ?_
    refine g_getR dX5_addRest_38 fl_X5_104 sh_4 (al_4 hn) (fun _ _ _ => rfl) rf_4_2 ?_
    refine g_bipush dX5_addRest_41 rfl ?_
    refine g_iald dX5_addRest_43 sh_7 (al_7 hn) (Nat.le_of_ble_eq_true rfl) (by decide) ?_
    refine g_iload_n dX5_addRest_44 rfl ?_
    refine g_aload_n dX5_addRest_45 rfl ?_
    refine g_getR dX5_addRest_46 fl_X5_57 sh_3 (al_3 hn) (fun _ _ _ => rfl) rf_3_14 ?_
    refine g_iload_n dX5_addRest_49 rfl ?_
    refine g_iald dX5_addRest_50 sh_30 (al_30 hn) (Nat.le_of_ble_eq_true rfl) o1 ?_
    refine g_isub dX5_addRest_51 ?_
    refine g_imul dX5_addRest_52 ?_
    obtain ⟨o3, w⟩ := w
    obtain ⟨o4, w⟩ := w
    refine g_cmp_le (tgt := 66) dX5_addRest_53 rfl o3 o4 ?_
    refine ite_imp (fun w => ?_) (fun w => ?_) w
    · exact g_sub (ls' := [aP 3, aI x1, aI x2, aI x3, aI x4]) ⟨Or.inr rfl, Or.inr rfl, Or.inr rfl, Or.inr rfl, Or.inr rfl, trivial⟩ w
    · refine g_aload_n dX5_addRest_56 rfl ?_
      refine g_getR dX5_addRest_57 fl_X5_63 sh_3 (al_3 hn) (fun _ _ _ => rfl) rf_3_16 ?_
      refine g_iload_n dX5_addRest_60 rfl ?_
      refine g_dup2 dX5_addRest_61 rfl rfl ?_
      refine g_iald dX5_addRest_62 sh_32 (al_32 hn) (Nat.le_of_ble_eq_true rfl) o1 ?_
      refine g_iconst dX5_addRest_63 ?_
      refine g_ior dX5_addRest_64 ?_
      refine g_iast dX5_addRest_65 sh_32 (al_32 hn) (Nat.le_of_ble_eq_true rfl) o1 ?_
      exact g_sub (ls' := [aP 3, aI x1, aI x2, aI x3, aI x4]) ⟨Or.inr rfl, Or.inr rfl, Or.inr rfl, Or.inr rfl, Or.inr rfl, trivial⟩ w
  · refine g_aload_n dX5_addRest_9 rfl ?_
    refine g_getR dX5_addRest_10 fl_X5_51 sh_3 (al_3 hn) (fun _ _ _ => rfl) rf_3_12 ?_
    refine g_iload_n dX5_addRest_13 rfl ?_
    refine g_iload_n dX5_addRest_14 rfl ?_
    refine g_iast dX5_addRest_15 sh_28 (al_28 hn) (Nat.le_of_ble_eq_true rfl) o1 ?_
    refine g_aload_n dX5_addRest_16 rfl ?_
    refine g_getR dX5_addRest_17 fl_X5_54 sh_3 (al_3 hn) (fun _ _ _ => rfl) rf_3_13 ?_
    refine g_iload_n dX5_addRest_20 rfl ?_
    refine g_iload_n dX5_addRest_21 rfl ?_
    refine g_iast dX5_addRest_22 sh_29 (al_29 hn) (Nat.le_of_ble_eq_true rfl) o1 ?_
    refine g_goto (tgt := 66) dX5_addRest_23 rfl ?_
    exact g_sub (ls' := [aP 3, aI x1, aI x2, aI x3, aI x4]) ⟨Or.inr rfl, Or.inr rfl, Or.inr rfl, Or.inr rfl, Or.inr rfl, trivial⟩ w
theorem e_X5_fallenBy {l : Launch} {D : Nat} {ζ : ZP} {h : HI} {Q : Int → HI → Prop} {x1 : Int} (hn : 144 ≤ ζ.2.2.2.2) (w : (0 ≤ x1 ∧ x1 < 60) ∧ Q ((h 29 x1) - (h 31 x1)) h) : RtI l (D + 1) mX5_fallenBy (zz ζ) [aP 3, aI x1] h Q := by
  refine RtI.of 0 pn_X5 [aP 3, aI x1] rfl rfl ?_
  refine g_aload_n dX5_fallenBy_0 rfl ?_
  refine g_getR dX5_fallenBy_1 fl_X5_54 sh_3 (al_3 hn) (fun _ _ _ => rfl) rf_3_13 ?_
  refine g_iload_n dX5_fallenBy_4 rfl ?_
  obtain ⟨o1, w⟩ := w
  refine g_iald dX5_fallenBy_5 sh_29 (al_29 hn) (Nat.le_of_ble_eq_true rfl) o1 ?_
  refine g_aload_n dX5_fallenBy_6 rfl ?_
  refine g_getR dX5_fallenBy_7 fl_X5_60 sh_3 (al_3 hn) (fun _ _ _ => rfl) rf_3_15 ?_
  refine g_iload_n dX5_fallenBy_10 rfl ?_
  refine g_iald dX5_fallenBy_11 sh_31 (al_31 hn) (Nat.le_of_ble_eq_true rfl) o1 ?_
  refine g_isub dX5_fallenBy_12 ?_
  exact g_retI dX5_fallenBy_13 rfl w
theorem e_X5_daysBetween {l : Launch} {D : Nat} {ζ : ZP} {h : HI} {Q : Int → HI → Prop} {x1 : Int} (hn : 144 ≤ ζ.2.2.2.2) (w : (0 ≤ x1 ∧ x1 < 60) ∧ Q ((h 30 x1) - (h 28 x1)) h) : RtI l (D + 1) mX5_daysBetween (zz ζ) [aP 3, aI x1] h Q := by
  refine RtI.of 0 pn_X5 [aP 3, aI x1] rfl rfl ?_
  refine g_aload_n dX5_daysBetween_0 rfl ?_
  refine g_getR dX5_daysBetween_1 fl_X5_57 sh_3 (al_3 hn) (fun _ _ _ => rfl) rf_3_14 ?_
  refine g_iload_n dX5_daysBetween_4 rfl ?_
  obtain ⟨o1, w⟩ := w
  refine g_iald dX5_daysBetween_5 sh_30 (al_30 hn) (Nat.le_of_ble_eq_true rfl) o1 ?_
  refine g_aload_n dX5_daysBetween_6 rfl ?_
  refine g_getR dX5_daysBetween_7 fl_X5_51 sh_3 (al_3 hn) (fun _ _ _ => rfl) rf_3_12 ?_
  refine g_iload_n dX5_daysBetween_10 rfl ?_
  refine g_iald dX5_daysBetween_11 sh_28 (al_28 hn) (Nat.le_of_ble_eq_true rfl) o1 ?_
  refine g_isub dX5_daysBetween_12 ?_
  exact g_retI dX5_daysBetween_13 rfl w
theorem e_X5_liesOf {l : Launch} {D : Nat} {ζ : ZP} {h : HI} {Q : Int → HI → Prop} {x1 : Int} (hn : 144 ≤ ζ.2.2.2.2) (w : (0 ≤ x1 ∧ x1 < 60) ∧ (rg (h 27 x1)) ∧ (if (h 27 x1) ≤ 1 then (Q (bor (h 32 x1) 0) h) else (RtI l D mX5_fallenBy (zz ζ) [aP 3, aI x1] h (fun r1 h1 => RtI l D mX5_daysBetween (zz ζ) [aP 3, aI x1] h1 (fun r2 h2 => (rg r1) ∧ (rg ((h1 7 6) * r2)) ∧ (if r1 ≤ ((h1 7 6) * r2) then (Q (bor (h2 32 x1) 0) h2) else (Q (bor (h2 32 x1) 1) h2))))))) : RtI l (D + 1) mX5_liesOf (zz ζ) [aP 3, aI x1] h Q := by
  refine RtI.of 1 pn_X5 [aP 3, aI x1, aU] rfl rfl ?_
  refine g_aload_n dX5_liesOf_0 rfl ?_
  refine g_getR dX5_liesOf_1 fl_X5_48 sh_3 (al_3 hn) (fun _ _ _ => rfl) rf_3_11 ?_
  refine g_iload_n dX5_liesOf_4 rfl ?_
  obtain ⟨o1, w⟩ := w
  refine g_iald dX5_liesOf_5 sh_27 (al_27 hn) (Nat.le_of_ble_eq_true rfl) o1 ?_
  refine g_iconst dX5_liesOf_6 ?_
  obtain ⟨o2, w⟩ := w
  refine g_cmp_le (tgt := 38) dX5_liesOf_7 rfl o2 (by decide) ?_
  refine ite_imp (fun w => ?_) (fun w => ?_) w
  · refine g_iconst dX5_liesOf_38 ?_
    refine g_istore_n (ls' := [aP 3, aI x1, aI 0]) dX5_liesOf_39 (Nat.le_of_ble_eq_true rfl) rfl rfl ?_
    refine g_aload_n dX5_liesOf_40 rfl ?_
    refine g_getR dX5_liesOf_41 fl_X5_63 sh_3 (al_3 hn) (fun _ _ _ => rfl) rf_3_16 ?_
    refine g_iload_n dX5_liesOf_44 rfl ?_
    refine g_iald dX5_liesOf_45 sh_32 (al_32 hn) (Nat.le_of_ble_eq_true rfl) o1 ?_
    refine g_iload_n dX5_liesOf_46 rfl ?_
    refine g_if_eq (tgt := 54) dX5_liesOf_47 rfl (by decide) ?_
    rw [if_pos (by decide)]
    refine g_iconst dX5_liesOf_54 ?_
    refine g_ior dX5_liesOf_55 ?_
    exact g_retI dX5_liesOf_56 rfl w
  · refine g_aload_n dX5_liesOf_10 rfl ?_
    refine g_iload_n dX5_liesOf_11 rfl ?_
    refine g_callVI (n := 1) (As := [aI x1]) (st := []) dX5_liesOf_12 ml_X5_107 sh_3 rfl (al_3 hn) rfl rfl (Nat.le_of_ble_eq_true rfl) (RtI.mono w (fun r1 h1 w => ?_))
    refine g_aload_n dX5_liesOf_15 rfl ?_
    refine g_getR dX5_liesOf_16 fl_X5_12 sh_3 (al_3 hn) (fun _ _ _ => rfl) rf_3_0 ?_
    refine g_getR dX5_liesOf_19 fl_X5_104 sh_4 (al_4 hn) (fun _ _ _ => rfl) rf_4_2 ?_
    refine g_bipush dX5_liesOf_22 rfl ?_
    refine g_iald dX5_liesOf_24 sh_7 (al_7 hn) (Nat.le_of_ble_eq_true rfl) (by decide) ?_
    refine g_aload_n dX5_liesOf_25 rfl ?_
    refine g_iload_n dX5_liesOf_26 rfl ?_
    refine g_callVI (n := 1) (As := [aI x1]) (st := [aI (h1 7 6), aI r1]) dX5_liesOf_27 ml_X5_111 sh_3 rfl (al_3 hn) rfl rfl (Nat.le_of_ble_eq_true rfl) (RtI.mono w (fun r2 h2 w => ?_))
    refine g_imul dX5_liesOf_30 ?_
    obtain ⟨o3, w⟩ := w
    obtain ⟨o4, w⟩ := w
    refine g_cmp_le (tgt := 38) dX5_liesOf_31 rfl o3 o4 ?_
    refine ite_imp (fun w => ?_) (fun w => ?_) w
    · refine g_iconst dX5_liesOf_38 ?_
      refine g_istore_n (ls' := [aP 3, aI x1, aI 0]) dX5_liesOf_39 (Nat.le_of_ble_eq_true rfl) rfl rfl ?_
      refine g_aload_n dX5_liesOf_40 rfl ?_
      refine g_getR dX5_liesOf_41 fl_X5_63 sh_3 (al_3 hn) (fun _ _ _ => rfl) rf_3_16 ?_
      refine g_iload_n dX5_liesOf_44 rfl ?_
      refine g_iald dX5_liesOf_45 sh_32 (al_32 hn) (Nat.le_of_ble_eq_true rfl) o1 ?_
      refine g_iload_n dX5_liesOf_46 rfl ?_
      refine g_if_eq (tgt := 54) dX5_liesOf_47 rfl (by decide) ?_
      rw [if_pos (by decide)]
      refine g_iconst dX5_liesOf_54 ?_
      refine g_ior dX5_liesOf_55 ?_
      exact g_retI dX5_liesOf_56 rfl w
    · refine g_iconst dX5_liesOf_34 ?_
      refine g_goto (tgt := 39) dX5_liesOf_35 rfl ?_
      refine g_istore_n (ls' := [aP 3, aI x1, aI 1]) dX5_liesOf_39 (Nat.le_of_ble_eq_true rfl) rfl rfl ?_
      refine g_aload_n dX5_liesOf_40 rfl ?_
      refine g_getR dX5_liesOf_41 fl_X5_63 sh_3 (al_3 hn) (fun _ _ _ => rfl) rf_3_16 ?_
      refine g_iload_n dX5_liesOf_44 rfl ?_
      refine g_iald dX5_liesOf_45 sh_32 (al_32 hn) (Nat.le_of_ble_eq_true rfl) o1 ?_
      refine g_iload_n dX5_liesOf_46 rfl ?_
      refine g_if_eq (tgt := 54) dX5_liesOf_47 rfl (by decide) ?_
      rw [if_neg (by decide)]
      refine g_iconst dX5_liesOf_50 ?_
      refine g_goto (tgt := 55) dX5_liesOf_51 rfl ?_
      refine g_ior dX5_liesOf_55 ?_
      exact g_retI dX5_liesOf_56 rfl w
