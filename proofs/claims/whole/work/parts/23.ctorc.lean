set_option maxRecDepth 4000 in
theorem k_X12_plainHouse_97_284 {l : Launch} {D : Nat} {h : HI} (h0 : ∀ a q, 143 ≤ a → a < 1000000 → h a q = 0) : Ret l (D + 1) 0 0 mX12_plainHouse (zt 284) [aP 97] h (fun v h' z' => v = none ∧ h' = (hu (hu (hu (hu (hu (hu (hu (hu (hu (hu (hu h 100 0 0) 100 1 0) 100 2 2) 100 3 1) 100 4 100) 100 5 5) 100 6 100) 100 7 2) 100 8 3) 100 9 20) 100 10 40) ∧ z' = (zt 284)) := by
  refine Ret.of 0 pn_X12 [aP 97] rfl rfl ?_
  refine g_aload_n dX12_plainHouse_0 rfl ?_
  refine g_getR (v := some 100) dX12_plainHouse_1 fl_X12_37 sh_97 (by rw [zn_zt_284]; decide) (fun _ _ _ => rfl) rt_284_97_7 ?_
  refine g_iconst dX12_plainHouse_4 ?_
  refine g_iconst dX12_plainHouse_5 ?_
  refine g_iast dX12_plainHouse_6 sh_100 (by rw [zn_zt_284]; decide) (Nat.le_of_ble_eq_true rfl) (by decide) ?_
  refine g_aload_n dX12_plainHouse_7 rfl ?_
  refine g_getR (v := some 100) dX12_plainHouse_8 fl_X12_37 sh_97 (by rw [zn_zt_284]; decide) (fun _ _ _ => rfl) rt_284_97_7 ?_
  refine g_iconst dX12_plainHouse_11 ?_
  refine g_iconst dX12_plainHouse_12 ?_
  refine g_iast dX12_plainHouse_13 sh_100 (by rw [zn_zt_284]; decide) (Nat.le_of_ble_eq_true rfl) (by decide) ?_
  refine g_aload_n dX12_plainHouse_14 rfl ?_
  refine g_getR (v := some 100) dX12_plainHouse_15 fl_X12_37 sh_97 (by rw [zn_zt_284]; decide) (fun _ _ _ => rfl) rt_284_97_7 ?_
  refine g_iconst dX12_plainHouse_18 ?_
  refine g_iconst dX12_plainHouse_19 ?_
  refine g_iast dX12_plainHouse_20 sh_100 (by rw [zn_zt_284]; decide) (Nat.le_of_ble_eq_true rfl) (by decide) ?_
  refine g_aload_n dX12_plainHouse_21 rfl ?_
  refine g_getR (v := some 100) dX12_plainHouse_22 fl_X12_37 sh_97 (by rw [zn_zt_284]; decide) (fun _ _ _ => rfl) rt_284_97_7 ?_
  refine g_iconst dX12_plainHouse_25 ?_
  refine g_iconst dX12_plainHouse_26 ?_
  refine g_iast dX12_plainHouse_27 sh_100 (by rw [zn_zt_284]; decide) (Nat.le_of_ble_eq_true rfl) (by decide) ?_
  refine g_aload_n dX12_plainHouse_28 rfl ?_
  refine g_getR (v := some 100) dX12_plainHouse_29 fl_X12_37 sh_97 (by rw [zn_zt_284]; decide) (fun _ _ _ => rfl) rt_284_97_7 ?_
  refine g_iconst dX12_plainHouse_32 ?_
  refine g_bipush dX12_plainHouse_33 rfl ?_
  refine g_iast dX12_plainHouse_35 sh_100 (by rw [zn_zt_284]; decide) (Nat.le_of_ble_eq_true rfl) (by decide) ?_
  refine g_aload_n dX12_plainHouse_36 rfl ?_
  refine g_getR (v := some 100) dX12_plainHouse_37 fl_X12_37 sh_97 (by rw [zn_zt_284]; decide) (fun _ _ _ => rfl) rt_284_97_7 ?_
  refine g_iconst dX12_plainHouse_40 ?_
  refine g_iconst dX12_plainHouse_41 ?_
  refine g_iast dX12_plainHouse_42 sh_100 (by rw [zn_zt_284]; decide) (Nat.le_of_ble_eq_true rfl) (by decide) ?_
  refine g_aload_n dX12_plainHouse_43 rfl ?_
  refine g_getR (v := some 100) dX12_plainHouse_44 fl_X12_37 sh_97 (by rw [zn_zt_284]; decide) (fun _ _ _ => rfl) rt_284_97_7 ?_
  refine g_bipush dX12_plainHouse_47 rfl ?_
  refine g_bipush dX12_plainHouse_49 rfl ?_
  refine g_iast dX12_plainHouse_51 sh_100 (by rw [zn_zt_284]; decide) (Nat.le_of_ble_eq_true rfl) (by decide) ?_
  refine g_aload_n dX12_plainHouse_52 rfl ?_
  refine g_getR (v := some 100) dX12_plainHouse_53 fl_X12_37 sh_97 (by rw [zn_zt_284]; decide) (fun _ _ _ => rfl) rt_284_97_7 ?_
  refine g_bipush dX12_plainHouse_56 rfl ?_
  refine g_iconst dX12_plainHouse_58 ?_
  refine g_iast dX12_plainHouse_59 sh_100 (by rw [zn_zt_284]; decide) (Nat.le_of_ble_eq_true rfl) (by decide) ?_
  refine g_aload_n dX12_plainHouse_60 rfl ?_
  refine g_getR (v := some 100) dX12_plainHouse_61 fl_X12_37 sh_97 (by rw [zn_zt_284]; decide) (fun _ _ _ => rfl) rt_284_97_7 ?_
  refine g_bipush dX12_plainHouse_64 rfl ?_
  refine g_iconst dX12_plainHouse_66 ?_
  refine g_iast dX12_plainHouse_67 sh_100 (by rw [zn_zt_284]; decide) (Nat.le_of_ble_eq_true rfl) (by decide) ?_
  refine g_aload_n dX12_plainHouse_68 rfl ?_
  refine g_getR (v := some 100) dX12_plainHouse_69 fl_X12_37 sh_97 (by rw [zn_zt_284]; decide) (fun _ _ _ => rfl) rt_284_97_7 ?_
  refine g_bipush dX12_plainHouse_72 rfl ?_
  refine g_bipush dX12_plainHouse_74 rfl ?_
  refine g_iast dX12_plainHouse_76 sh_100 (by rw [zn_zt_284]; decide) (Nat.le_of_ble_eq_true rfl) (by decide) ?_
  refine g_aload_n dX12_plainHouse_77 rfl ?_
  refine g_getR (v := some 100) dX12_plainHouse_78 fl_X12_37 sh_97 (by rw [zn_zt_284]; decide) (fun _ _ _ => rfl) rt_284_97_7 ?_
  refine g_bipush dX12_plainHouse_81 rfl ?_
  refine g_bipush dX12_plainHouse_83 rfl ?_
  refine g_iast dX12_plainHouse_85 sh_100 (by rw [zn_zt_284]; decide) (Nat.le_of_ble_eq_true rfl) (by decide) ?_
  exact g_retv dX12_plainHouse_86 rfl ⟨rfl, rfl, rfl⟩
set_option maxRecDepth 4000 in
theorem k_X12_init_97 {l : Launch} {D : Nat} {h : HI} (h0 : ∀ a q, 98 ≤ a → a < 1000000 → h a q = 0) : Ret l (D + 2) 45 15322 mX12_init (zt 194) [aP 97] h (fun v h' z' => v = none ∧ h' = (hu (hu (hu (hu (hu (hu (hu (hu (hu (hu (hu (hu (hu (hu (hu (hu (hu (hu (hu (hu (hu (hu (hu (hu (hu (hu (hu (hu (hu (hu (hu (hu (hu (hu (hu (hu (hu (hu (hu (hu (hu (hu (hu (hu (hu (hu h 97 62 (-1)) 102 0 422608528232) 102 1 6451064) 102 2 1717658725) 102 3 439905906546) 102 4 422725379428) 102 5 1718973285) 102 6 474315584357) 102 7 1818583403) 102 8 1786080624) 102 9 2002874989) 102 10 28530) 102 11 6385252) 102 12 7237492) 102 13 26990) 102 14 1818846579) 102 15 1970496868) 102 16 1752132708) 102 17 1885434739) 102 18 126926792778084) 102 19 1667591276) 102 20 495874894192) 102 21 418330731890) 102 22 1852137842) 100 0 0) 100 1 0) 100 2 2) 100 3 1) 100 4 100) 100 5 5) 100 6 100) 100 7 2) 100 8 3) 100 9 20) 100 10 40) 99 0 0) 99 1 0) 99 2 2) 99 3 1) 99 4 100) 99 5 5) 99 6 100) 99 7 2) 99 8 3) 99 9 20) 99 10 40) ∧ z' = (zt 284)) := by
  refine Ret.of 1 pn_X12 [aP 97, aU] rfl rfl ?_
  refine g_aload_n dX12_init_0 rfl ?_
  refine g_obj dX12_init_1 ob_X12_27 (Nat.le_of_ble_eq_true rfl) ?_
  refine g_aload_n dX12_init_4 rfl ?_
  refine g_sipush dX12_init_5 rfl ?_
  refine g_newarr0 (N := 540) (n := 98) (z' := (zt 195)) (mc' := 44) (ms' := 14782) zn_zt_194 zt_195 dX12_init_8 ac_1 rfl (by decide) sh_98 (by decide) rfl (zb_zt 194) (by decide) (fun q => (far_le (N2 := 98) (by decide) h0) 98 q (by decide) (by decide)) rfl rfl rfl rfl ?_
  refine g_putF0 (z' := (zt 196)) zt_196 dX12_init_10 fl_X12_14 sh_97 (by rw [zn_zt_195]; decide) (fun _ _ _ => rfl) (narR rfl) rfl rfl ?_
  refine g_aload_n dX12_init_13 rfl ?_
  refine g_sipush dX12_init_14 rfl ?_
  refine g_newarr0 (N := 2819) (n := 99) (z' := (zt 197)) (mc' := 43) (ms' := 11963) zn_zt_196 zt_197 dX12_init_17 ac_0 rfl (by decide) sh_99 (by decide) rfl (zb_zt 196) (by decide) (fun q => (far_le (N2 := 99) (by decide) h0) 99 q (by decide) (by decide)) rfl rfl rfl rfl ?_
  refine g_putF0 (z' := (zt 198)) zt_198 dX12_init_19 fl_X12_33 sh_97 (by rw [zn_zt_197]; decide) (fun _ _ _ => rfl) (narR rfl) rfl rfl ?_
  refine g_aload_n dX12_init_22 rfl ?_
  refine g_bipush dX12_init_23 rfl ?_
  refine g_newarr0 (N := 11) (n := 100) (z' := (zt 199)) (mc' := 42) (ms' := 11952) zn_zt_198 zt_199 dX12_init_25 ac_0 rfl (by decide) sh_100 (by decide) rfl (zb_zt 198) (by decide) (fun q => (far_le (N2 := 100) (by decide) h0) 100 q (by decide) (by decide)) rfl rfl rfl rfl ?_
  refine g_putF0 (z' := (zt 200)) zt_200 dX12_init_27 fl_X12_37 sh_97 (by rw [zn_zt_199]; decide) (fun _ _ _ => rfl) (narR rfl) rfl rfl ?_
  refine g_aload_n dX12_init_30 rfl ?_
  refine g_bipush dX12_init_31 rfl ?_
  refine g_newarr0 (N := 28) (n := 101) (z' := (zt 201)) (mc' := 41) (ms' := 11924) zn_zt_200 zt_201 dX12_init_33 ac_2 rfl (by decide) sh_101 (by decide) rfl (zb_zt 200) (by decide) (fun q => (far_le (N2 := 101) (by decide) h0) 101 q (by decide) (by decide)) rfl rfl rfl rfl ?_
  refine g_putF0 (z' := (zt 202)) zt_202 dX12_init_35 fl_X12_40 sh_97 (by rw [zn_zt_201]; decide) (fun _ _ _ => rfl) (narR rfl) rfl rfl ?_
  refine g_aload_n dX12_init_38 rfl ?_
  refine g_bipush dX12_init_39 rfl ?_
  refine g_newarr0 (N := 23) (n := 102) (z' := (zt 203)) (mc' := 40) (ms' := 11901) zn_zt_202 zt_203 dX12_init_41 ac_2 rfl (by decide) sh_102 (by decide) rfl (zb_zt 202) (by decide) (fun q => (far_le (N2 := 102) (by decide) h0) 102 q (by decide) (by decide)) rfl rfl rfl rfl ?_
  refine g_putF0 (z' := (zt 204)) zt_204 dX12_init_43 fl_X12_44 sh_97 (by rw [zn_zt_203]; decide) (fun _ _ _ => rfl) (narR rfl) rfl rfl ?_
  refine g_aload_n dX12_init_46 rfl ?_
  refine g_bipush dX12_init_47 rfl ?_
  refine g_newarr0 (N := 6) (n := 103) (z' := (zt 205)) (mc' := 39) (ms' := 11895) zn_zt_204 zt_205 dX12_init_49 ac_3 rfl (by decide) sh_103 (by decide) rfl (zb_zt 204) (by decide) (fun q => (far_le (N2 := 103) (by decide) h0) 103 q (by decide) (by decide)) rfl rfl rfl rfl ?_
  refine g_putF0 (z' := (zt 206)) zt_206 dX12_init_51 fl_X12_47 sh_97 (by rw [zn_zt_205]; decide) (fun _ _ _ => rfl) (narR rfl) rfl rfl ?_
  refine g_aload_n dX12_init_54 rfl ?_
  refine g_bipush dX12_init_55 rfl ?_
  refine g_newarr0 (N := 6) (n := 104) (z' := (zt 207)) (mc' := 38) (ms' := 11889) zn_zt_206 zt_207 dX12_init_57 ac_0 rfl (by decide) sh_104 (by decide) rfl (zb_zt 206) (by decide) (fun q => (far_le (N2 := 104) (by decide) h0) 104 q (by decide) (by decide)) rfl rfl rfl rfl ?_
  refine g_putF0 (z' := (zt 208)) zt_208 dX12_init_59 fl_X12_51 sh_97 (by rw [zn_zt_207]; decide) (fun _ _ _ => rfl) (narR rfl) rfl rfl ?_
  refine g_aload_n dX12_init_62 rfl ?_
  refine g_bipush dX12_init_63 rfl ?_
  refine g_newarr0 (N := 6) (n := 105) (z' := (zt 209)) (mc' := 37) (ms' := 11883) zn_zt_208 zt_209 dX12_init_65 ac_0 rfl (by decide) sh_105 (by decide) rfl (zb_zt 208) (by decide) (fun q => (far_le (N2 := 105) (by decide) h0) 105 q (by decide) (by decide)) rfl rfl rfl rfl ?_
  refine g_putF0 (z' := (zt 210)) zt_210 dX12_init_67 fl_X12_54 sh_97 (by rw [zn_zt_209]; decide) (fun _ _ _ => rfl) (narR rfl) rfl rfl ?_
  refine g_aload_n dX12_init_70 rfl ?_
  refine g_bipush dX12_init_71 rfl ?_
  refine g_newarr0 (N := 60) (n := 106) (z' := (zt 211)) (mc' := 36) (ms' := 11823) zn_zt_210 zt_211 dX12_init_73 ac_0 rfl (by decide) sh_106 (by decide) rfl (zb_zt 210) (by decide) (fun q => (far_le (N2 := 106) (by decide) h0) 106 q (by decide) (by decide)) rfl rfl rfl rfl ?_
  refine g_putF0 (z' := (zt 212)) zt_212 dX12_init_75 fl_X12_57 sh_97 (by rw [zn_zt_211]; decide) (fun _ _ _ => rfl) (narR rfl) rfl rfl ?_
  refine g_aload_n dX12_init_78 rfl ?_
  refine g_bipush dX12_init_79 rfl ?_
  refine g_newarr0 (N := 60) (n := 107) (z' := (zt 213)) (mc' := 35) (ms' := 11763) zn_zt_212 zt_213 dX12_init_81 ac_0 rfl (by decide) sh_107 (by decide) rfl (zb_zt 212) (by decide) (fun q => (far_le (N2 := 107) (by decide) h0) 107 q (by decide) (by decide)) rfl rfl rfl rfl ?_
  refine g_putF0 (z' := (zt 214)) zt_214 dX12_init_83 fl_X12_60 sh_97 (by rw [zn_zt_213]; decide) (fun _ _ _ => rfl) (narR rfl) rfl rfl ?_
  refine g_aload_n dX12_init_86 rfl ?_
  refine g_bipush dX12_init_87 rfl ?_
  refine g_newarr0 (N := 60) (n := 108) (z' := (zt 215)) (mc' := 34) (ms' := 11703) zn_zt_214 zt_215 dX12_init_89 ac_0 rfl (by decide) sh_108 (by decide) rfl (zb_zt 214) (by decide) (fun q => (far_le (N2 := 108) (by decide) h0) 108 q (by decide) (by decide)) rfl rfl rfl rfl ?_
  refine g_putF0 (z' := (zt 216)) zt_216 dX12_init_91 fl_X12_63 sh_97 (by rw [zn_zt_215]; decide) (fun _ _ _ => rfl) (narR rfl) rfl rfl ?_
  refine g_aload_n dX12_init_94 rfl ?_
  refine g_bipush dX12_init_95 rfl ?_
  refine g_newarr0 (N := 60) (n := 109) (z' := (zt 217)) (mc' := 33) (ms' := 11643) zn_zt_216 zt_217 dX12_init_97 ac_0 rfl (by decide) sh_109 (by decide) rfl (zb_zt 216) (by decide) (fun q => (far_le (N2 := 109) (by decide) h0) 109 q (by decide) (by decide)) rfl rfl rfl rfl ?_
  refine g_putF0 (z' := (zt 218)) zt_218 dX12_init_99 fl_X12_66 sh_97 (by rw [zn_zt_217]; decide) (fun _ _ _ => rfl) (narR rfl) rfl rfl ?_
  refine g_aload_n dX12_init_102 rfl ?_
  refine g_bipush dX12_init_103 rfl ?_
  refine g_newarr0 (N := 60) (n := 110) (z' := (zt 219)) (mc' := 32) (ms' := 11583) zn_zt_218 zt_219 dX12_init_105 ac_0 rfl (by decide) sh_110 (by decide) rfl (zb_zt 218) (by decide) (fun q => (far_le (N2 := 110) (by decide) h0) 110 q (by decide) (by decide)) rfl rfl rfl rfl ?_
  refine g_putF0 (z' := (zt 220)) zt_220 dX12_init_107 fl_X12_69 sh_97 (by rw [zn_zt_219]; decide) (fun _ _ _ => rfl) (narR rfl) rfl rfl ?_
  refine g_aload_n dX12_init_110 rfl ?_
  refine g_sipush dX12_init_111 rfl ?_
  refine g_newarr0 (N := 192) (n := 111) (z' := (zt 221)) (mc' := 31) (ms' := 11391) zn_zt_220 zt_221 dX12_init_114 ac_0 rfl (by decide) sh_111 (by decide) rfl (zb_zt 220) (by decide) (fun q => (far_le (N2 := 111) (by decide) h0) 111 q (by decide) (by decide)) rfl rfl rfl rfl ?_
  refine g_putF0 (z' := (zt 222)) zt_222 dX12_init_116 fl_X12_72 sh_97 (by rw [zn_zt_221]; decide) (fun _ _ _ => rfl) (narR rfl) rfl rfl ?_
  refine g_aload_n dX12_init_119 rfl ?_
  refine g_bipush dX12_init_120 rfl ?_
  refine g_newarr0 (N := 30) (n := 112) (z' := (zt 223)) (mc' := 30) (ms' := 11361) zn_zt_222 zt_223 dX12_init_122 ac_0 rfl (by decide) sh_112 (by decide) rfl (zb_zt 222) (by decide) (fun q => (far_le (N2 := 112) (by decide) h0) 112 q (by decide) (by decide)) rfl rfl rfl rfl ?_
  refine g_putF0 (z' := (zt 224)) zt_224 dX12_init_124 fl_X12_75 sh_97 (by rw [zn_zt_223]; decide) (fun _ _ _ => rfl) (narR rfl) rfl rfl ?_
  refine g_aload_n dX12_init_127 rfl ?_
  refine g_bipush dX12_init_128 rfl ?_
  refine g_newarr0 (N := 64) (n := 113) (z' := (zt 225)) (mc' := 29) (ms' := 11297) zn_zt_224 zt_225 dX12_init_130 ac_3 rfl (by decide) sh_113 (by decide) rfl (zb_zt 224) (by decide) (fun q => (far_le (N2 := 113) (by decide) h0) 113 q (by decide) (by decide)) rfl rfl rfl rfl ?_
  refine g_putF0 (z' := (zt 226)) zt_226 dX12_init_132 fl_X12_78 sh_97 (by rw [zn_zt_225]; decide) (fun _ _ _ => rfl) (narR rfl) rfl rfl ?_
  refine g_aload_n dX12_init_135 rfl ?_
  refine g_bipush dX12_init_136 rfl ?_
  refine g_newarr0 (N := 60) (n := 114) (z' := (zt 227)) (mc' := 28) (ms' := 11237) zn_zt_226 zt_227 dX12_init_138 ac_0 rfl (by decide) sh_114 (by decide) rfl (zb_zt 226) (by decide) (fun q => (far_le (N2 := 114) (by decide) h0) 114 q (by decide) (by decide)) rfl rfl rfl rfl ?_
  refine g_putF0 (z' := (zt 228)) zt_228 dX12_init_140 fl_X12_81 sh_97 (by rw [zn_zt_227]; decide) (fun _ _ _ => rfl) (narR rfl) rfl rfl ?_
  refine g_aload_n dX12_init_143 rfl ?_
  refine g_bipush dX12_init_144 rfl ?_
  refine g_newarr0 (N := 60) (n := 115) (z' := (zt 229)) (mc' := 27) (ms' := 11177) zn_zt_228 zt_229 dX12_init_146 ac_0 rfl (by decide) sh_115 (by decide) rfl (zb_zt 228) (by decide) (fun q => (far_le (N2 := 115) (by decide) h0) 115 q (by decide) (by decide)) rfl rfl rfl rfl ?_
  refine g_putF0 (z' := (zt 230)) zt_230 dX12_init_148 fl_X12_84 sh_97 (by rw [zn_zt_229]; decide) (fun _ _ _ => rfl) (narR rfl) rfl rfl ?_
  refine g_aload_n dX12_init_151 rfl ?_
  refine g_bipush dX12_init_152 rfl ?_
  refine g_newarr0 (N := 60) (n := 116) (z' := (zt 231)) (mc' := 26) (ms' := 11117) zn_zt_230 zt_231 dX12_init_154 ac_0 rfl (by decide) sh_116 (by decide) rfl (zb_zt 230) (by decide) (fun q => (far_le (N2 := 116) (by decide) h0) 116 q (by decide) (by decide)) rfl rfl rfl rfl ?_
  refine g_putF0 (z' := (zt 232)) zt_232 dX12_init_156 fl_X12_87 sh_97 (by rw [zn_zt_231]; decide) (fun _ _ _ => rfl) (narR rfl) rfl rfl ?_
  refine g_aload_n dX12_init_159 rfl ?_
  refine g_bipush dX12_init_160 rfl ?_
  refine g_newarr0 (N := 60) (n := 117) (z' := (zt 233)) (mc' := 25) (ms' := 11057) zn_zt_232 zt_233 dX12_init_162 ac_0 rfl (by decide) sh_117 (by decide) rfl (zb_zt 232) (by decide) (fun q => (far_le (N2 := 117) (by decide) h0) 117 q (by decide) (by decide)) rfl rfl rfl rfl ?_
  refine g_putF0 (z' := (zt 234)) zt_234 dX12_init_164 fl_X12_90 sh_97 (by rw [zn_zt_233]; decide) (fun _ _ _ => rfl) (narR rfl) rfl rfl ?_
  refine g_aload_n dX12_init_167 rfl ?_
  refine g_bipush dX12_init_168 rfl ?_
  refine g_newarr0 (N := 60) (n := 118) (z' := (zt 235)) (mc' := 24) (ms' := 10997) zn_zt_234 zt_235 dX12_init_170 ac_0 rfl (by decide) sh_118 (by decide) rfl (zb_zt 234) (by decide) (fun q => (far_le (N2 := 118) (by decide) h0) 118 q (by decide) (by decide)) rfl rfl rfl rfl ?_
  refine g_putF0 (z' := (zt 236)) zt_236 dX12_init_172 fl_X12_93 sh_97 (by rw [zn_zt_235]; decide) (fun _ _ _ => rfl) (narR rfl) rfl rfl ?_
  refine g_aload_n dX12_init_175 rfl ?_
  refine g_bipush dX12_init_176 rfl ?_
  refine g_newarr0 (N := 60) (n := 119) (z' := (zt 237)) (mc' := 23) (ms' := 10937) zn_zt_236 zt_237 dX12_init_178 ac_0 rfl (by decide) sh_119 (by decide) rfl (zb_zt 236) (by decide) (fun q => (far_le (N2 := 119) (by decide) h0) 119 q (by decide) (by decide)) rfl rfl rfl rfl ?_
  refine g_putF0 (z' := (zt 238)) zt_238 dX12_init_180 fl_X12_96 sh_97 (by rw [zn_zt_237]; decide) (fun _ _ _ => rfl) (narR rfl) rfl rfl ?_
  refine g_aload_n dX12_init_183 rfl ?_
  refine g_bipush dX12_init_184 rfl ?_
  refine g_newarr0 (N := 60) (n := 120) (z' := (zt 239)) (mc' := 22) (ms' := 10877) zn_zt_238 zt_239 dX12_init_186 ac_0 rfl (by decide) sh_120 (by decide) rfl (zb_zt 238) (by decide) (fun q => (far_le (N2 := 120) (by decide) h0) 120 q (by decide) (by decide)) rfl rfl rfl rfl ?_
  refine g_putF0 (z' := (zt 240)) zt_240 dX12_init_188 fl_X12_99 sh_97 (by rw [zn_zt_239]; decide) (fun _ _ _ => rfl) (narR rfl) rfl rfl ?_
  refine g_aload_n dX12_init_191 rfl ?_
  refine g_bipush dX12_init_192 rfl ?_
  refine g_newarr0 (N := 12) (n := 121) (z' := (zt 241)) (mc' := 21) (ms' := 10865) zn_zt_240 zt_241 dX12_init_194 ac_0 rfl (by decide) sh_121 (by decide) rfl (zb_zt 240) (by decide) (fun q => (far_le (N2 := 121) (by decide) h0) 121 q (by decide) (by decide)) rfl rfl rfl rfl ?_
  refine g_putF0 (z' := (zt 242)) zt_242 dX12_init_196 fl_X12_102 sh_97 (by rw [zn_zt_241]; decide) (fun _ _ _ => rfl) (narR rfl) rfl rfl ?_
  refine g_aload_n dX12_init_199 rfl ?_
  refine g_bipush dX12_init_200 rfl ?_
  refine g_newarr0 (N := 40) (n := 122) (z' := (zt 243)) (mc' := 20) (ms' := 10825) zn_zt_242 zt_243 dX12_init_202 ac_0 rfl (by decide) sh_122 (by decide) rfl (zb_zt 242) (by decide) (fun q => (far_le (N2 := 122) (by decide) h0) 122 q (by decide) (by decide)) rfl rfl rfl rfl ?_
  refine g_putF0 (z' := (zt 244)) zt_244 dX12_init_204 fl_X12_105 sh_97 (by rw [zn_zt_243]; decide) (fun _ _ _ => rfl) (narR rfl) rfl rfl ?_
  refine g_aload_n dX12_init_207 rfl ?_
  refine g_bipush dX12_init_208 rfl ?_
  refine g_newarr0 (N := 60) (n := 123) (z' := (zt 245)) (mc' := 19) (ms' := 10765) zn_zt_244 zt_245 dX12_init_210 ac_0 rfl (by decide) sh_123 (by decide) rfl (zb_zt 244) (by decide) (fun q => (far_le (N2 := 123) (by decide) h0) 123 q (by decide) (by decide)) rfl rfl rfl rfl ?_
  refine g_putF0 (z' := (zt 246)) zt_246 dX12_init_212 fl_X12_108 sh_97 (by rw [zn_zt_245]; decide) (fun _ _ _ => rfl) (narR rfl) rfl rfl ?_
  refine g_aload_n dX12_init_215 rfl ?_
  refine g_bipush dX12_init_216 rfl ?_
  refine g_newarr0 (N := 9) (n := 124) (z' := (zt 247)) (mc' := 18) (ms' := 10756) zn_zt_246 zt_247 dX12_init_218 ac_0 rfl (by decide) sh_124 (by decide) rfl (zb_zt 246) (by decide) (fun q => (far_le (N2 := 124) (by decide) h0) 124 q (by decide) (by decide)) rfl rfl rfl rfl ?_
  refine g_putF0 (z' := (zt 248)) zt_248 dX12_init_220 fl_X12_111 sh_97 (by rw [zn_zt_247]; decide) (fun _ _ _ => rfl) (narR rfl) rfl rfl ?_
  refine g_aload_n dX12_init_223 rfl ?_
  refine g_iconst dX12_init_224 ?_
  refine g_putI (J := 62) dX12_init_225 fl_X12_114 sh_97 (by rw [zn_zt_248]; decide) rfl rfl ?_
  refine g_aload_n dX12_init_228 rfl ?_
  refine g_bipush dX12_init_229 rfl ?_
  refine g_newarr0 (N := 40) (n := 125) (z' := (zt 249)) (mc' := 17) (ms' := 10716) zn_zt_248 zt_249 dX12_init_231 ac_0 rfl (by decide) sh_125 (by decide) rfl (zb_zt 248) (by decide) (fun q => (hu_far (by decide) (far_le (N2 := 125) (by decide) h0)) 125 q (by decide) (by decide)) rfl rfl rfl rfl ?_
  refine g_putF0 (z' := (zt 250)) zt_250 dX12_init_233 fl_X12_117 sh_97 (by rw [zn_zt_249]; decide) (fun _ _ _ => rfl) (narR rfl) rfl rfl ?_
  refine g_aload_n dX12_init_236 rfl ?_
  refine g_bipush dX12_init_237 rfl ?_
  refine g_newarr0 (N := 24) (n := 126) (z' := (zt 251)) (mc' := 16) (ms' := 10692) zn_zt_250 zt_251 dX12_init_239 ac_2 rfl (by decide) sh_126 (by decide) rfl (zb_zt 250) (by decide) (fun q => (hu_far (by decide) (far_le (N2 := 126) (by decide) h0)) 126 q (by decide) (by decide)) rfl rfl rfl rfl ?_
  refine g_putF0 (z' := (zt 252)) zt_252 dX12_init_241 fl_X12_120 sh_97 (by rw [zn_zt_251]; decide) (fun _ _ _ => rfl) (narR rfl) rfl rfl ?_
  refine g_aload_n dX12_init_244 rfl ?_
  refine g_bipush dX12_init_245 rfl ?_
  refine g_newarr0 (N := 24) (n := 127) (z' := (zt 253)) (mc' := 15) (ms' := 10668) zn_zt_252 zt_253 dX12_init_247 ac_0 rfl (by decide) sh_127 (by decide) rfl (zb_zt 252) (by decide) (fun q => (hu_far (by decide) (far_le (N2 := 127) (by decide) h0)) 127 q (by decide) (by decide)) rfl rfl rfl rfl ?_
  refine g_putF0 (z' := (zt 254)) zt_254 dX12_init_249 fl_X12_123 sh_97 (by rw [zn_zt_253]; decide) (fun _ _ _ => rfl) (narR rfl) rfl rfl ?_
  refine g_aload_n dX12_init_252 rfl ?_
  refine g_bipush dX12_init_253 rfl ?_
  refine g_newarr0 (N := 24) (n := 128) (z' := (zt 255)) (mc' := 14) (ms' := 10644) zn_zt_254 zt_255 dX12_init_255 ac_0 rfl (by decide) sh_128 (by decide) rfl (zb_zt 254) (by decide) (fun q => (hu_far (by decide) (far_le (N2 := 128) (by decide) h0)) 128 q (by decide) (by decide)) rfl rfl rfl rfl ?_
  refine g_putF0 (z' := (zt 256)) zt_256 dX12_init_257 fl_X12_126 sh_97 (by rw [zn_zt_255]; decide) (fun _ _ _ => rfl) (narR rfl) rfl rfl ?_
  refine g_aload_n dX12_init_260 rfl ?_
  refine g_bipush dX12_init_261 rfl ?_
  refine g_newarr0 (N := 24) (n := 129) (z' := (zt 257)) (mc' := 13) (ms' := 10620) zn_zt_256 zt_257 dX12_init_263 ac_0 rfl (by decide) sh_129 (by decide) rfl (zb_zt 256) (by decide) (fun q => (hu_far (by decide) (far_le (N2 := 129) (by decide) h0)) 129 q (by decide) (by decide)) rfl rfl rfl rfl ?_
  refine g_putF0 (z' := (zt 258)) zt_258 dX12_init_265 fl_X12_129 sh_97 (by rw [zn_zt_257]; decide) (fun _ _ _ => rfl) (narR rfl) rfl rfl ?_
  refine g_aload_n dX12_init_268 rfl ?_
  refine g_sipush dX12_init_269 rfl ?_
  refine g_newarr0 (N := 160) (n := 130) (z' := (zt 259)) (mc' := 12) (ms' := 10460) zn_zt_258 zt_259 dX12_init_272 ac_0 rfl (by decide) sh_130 (by decide) rfl (zb_zt 258) (by decide) (fun q => (hu_far (by decide) (far_le (N2 := 130) (by decide) h0)) 130 q (by decide) (by decide)) rfl rfl rfl rfl ?_
  refine g_putF0 (z' := (zt 260)) zt_260 dX12_init_274 fl_X12_132 sh_97 (by rw [zn_zt_259]; decide) (fun _ _ _ => rfl) (narR rfl) rfl rfl ?_
  refine g_aload_n dX12_init_277 rfl ?_
  refine g_sipush dX12_init_278 rfl ?_
  refine g_newarr0 (N := 160) (n := 131) (z' := (zt 261)) (mc' := 11) (ms' := 10300) zn_zt_260 zt_261 dX12_init_281 ac_0 rfl (by decide) sh_131 (by decide) rfl (zb_zt 260) (by decide) (fun q => (hu_far (by decide) (far_le (N2 := 131) (by decide) h0)) 131 q (by decide) (by decide)) rfl rfl rfl rfl ?_
  refine g_putF0 (z' := (zt 262)) zt_262 dX12_init_283 fl_X12_135 sh_97 (by rw [zn_zt_261]; decide) (fun _ _ _ => rfl) (narR rfl) rfl rfl ?_
  refine g_aload_n dX12_init_286 rfl ?_
  refine g_sipush dX12_init_287 rfl ?_
  refine g_newarr0 (N := 160) (n := 132) (z' := (zt 263)) (mc' := 10) (ms' := 10140) zn_zt_262 zt_263 dX12_init_290 ac_0 rfl (by decide) sh_132 (by decide) rfl (zb_zt 262) (by decide) (fun q => (hu_far (by decide) (far_le (N2 := 132) (by decide) h0)) 132 q (by decide) (by decide)) rfl rfl rfl rfl ?_
  refine g_putF0 (z' := (zt 264)) zt_264 dX12_init_292 fl_X12_138 sh_97 (by rw [zn_zt_263]; decide) (fun _ _ _ => rfl) (narR rfl) rfl rfl ?_
  refine g_aload_n dX12_init_295 rfl ?_
  refine g_iconst dX12_init_296 ?_
  refine g_newarr0 (N := 2) (n := 133) (z' := (zt 265)) (mc' := 9) (ms' := 10138) zn_zt_264 zt_265 dX12_init_297 ac_0 rfl (by decide) sh_133 (by decide) rfl (zb_zt 264) (by decide) (fun q => (hu_far (by decide) (far_le (N2 := 133) (by decide) h0)) 133 q (by decide) (by decide)) rfl rfl rfl rfl ?_
  refine g_putF0 (z' := (zt 266)) zt_266 dX12_init_299 fl_X12_141 sh_97 (by rw [zn_zt_265]; decide) (fun _ _ _ => rfl) (narR rfl) rfl rfl ?_
  refine g_aload_n dX12_init_302 rfl ?_
  refine g_iconst dX12_init_303 ?_
  refine g_newarr0 (N := 2) (n := 134) (z' := (zt 267)) (mc' := 8) (ms' := 10136) zn_zt_266 zt_267 dX12_init_304 ac_0 rfl (by decide) sh_134 (by decide) rfl (zb_zt 266) (by decide) (fun q => (hu_far (by decide) (far_le (N2 := 134) (by decide) h0)) 134 q (by decide) (by decide)) rfl rfl rfl rfl ?_
  refine g_putF0 (z' := (zt 268)) zt_268 dX12_init_306 fl_X12_144 sh_97 (by rw [zn_zt_267]; decide) (fun _ _ _ => rfl) (narR rfl) rfl rfl ?_
  refine g_aload_n dX12_init_309 rfl ?_
  refine g_bipush dX12_init_310 rfl ?_
  refine g_newarr0 (N := 120) (n := 135) (z' := (zt 269)) (mc' := 7) (ms' := 10016) zn_zt_268 zt_269 dX12_init_312 ac_0 rfl (by decide) sh_135 (by decide) rfl (zb_zt 268) (by decide) (fun q => (hu_far (by decide) (far_le (N2 := 135) (by decide) h0)) 135 q (by decide) (by decide)) rfl rfl rfl rfl ?_
  refine g_putF0 (z' := (zt 270)) zt_270 dX12_init_314 fl_X12_147 sh_97 (by rw [zn_zt_269]; decide) (fun _ _ _ => rfl) (narR rfl) rfl rfl ?_
  refine g_aload_n dX12_init_317 rfl ?_
  refine g_bipush dX12_init_318 rfl ?_
  refine g_newarr0 (N := 120) (n := 136) (z' := (zt 271)) (mc' := 6) (ms' := 9896) zn_zt_270 zt_271 dX12_init_320 ac_0 rfl (by decide) sh_136 (by decide) rfl (zb_zt 270) (by decide) (fun q => (hu_far (by decide) (far_le (N2 := 136) (by decide) h0)) 136 q (by decide) (by decide)) rfl rfl rfl rfl ?_
  refine g_putF0 (z' := (zt 272)) zt_272 dX12_init_322 fl_X12_150 sh_97 (by rw [zn_zt_271]; decide) (fun _ _ _ => rfl) (narR rfl) rfl rfl ?_
  refine g_aload_n dX12_init_325 rfl ?_
  refine g_bipush dX12_init_326 rfl ?_
  refine g_newarr0 (N := 120) (n := 137) (z' := (zt 273)) (mc' := 5) (ms' := 9776) zn_zt_272 zt_273 dX12_init_328 ac_0 rfl (by decide) sh_137 (by decide) rfl (zb_zt 272) (by decide) (fun q => (hu_far (by decide) (far_le (N2 := 137) (by decide) h0)) 137 q (by decide) (by decide)) rfl rfl rfl rfl ?_
  refine g_putF0 (z' := (zt 274)) zt_274 dX12_init_330 fl_X12_153 sh_97 (by rw [zn_zt_273]; decide) (fun _ _ _ => rfl) (narR rfl) rfl rfl ?_
  refine g_aload_n dX12_init_333 rfl ?_
  refine g_sipush dX12_init_334 rfl ?_
  refine g_newarr0 (N := 4096) (n := 138) (z' := (zt 275)) (mc' := 4) (ms' := 5680) zn_zt_274 zt_275 dX12_init_337 ac_3 rfl (by decide) sh_138 (by decide) rfl (zb_zt 274) (by decide) (fun q => (hu_far (by decide) (far_le (N2 := 138) (by decide) h0)) 138 q (by decide) (by decide)) rfl rfl rfl rfl ?_
  refine g_putF0 (z' := (zt 276)) zt_276 dX12_init_339 fl_X12_156 sh_97 (by rw [zn_zt_275]; decide) (fun _ _ _ => rfl) (narR rfl) rfl rfl ?_
  refine g_aload_n dX12_init_342 rfl ?_
  refine g_bipush dX12_init_343 rfl ?_
  refine g_newarr0 (N := 12) (n := 139) (z' := (zt 277)) (mc' := 3) (ms' := 5668) zn_zt_276 zt_277 dX12_init_345 ac_0 rfl (by decide) sh_139 (by decide) rfl (zb_zt 276) (by decide) (fun q => (hu_far (by decide) (far_le (N2 := 139) (by decide) h0)) 139 q (by decide) (by decide)) rfl rfl rfl rfl ?_
  refine g_putF0 (z' := (zt 278)) zt_278 dX12_init_347 fl_X12_159 sh_97 (by rw [zn_zt_277]; decide) (fun _ _ _ => rfl) (narR rfl) rfl rfl ?_
  refine g_aload_n dX12_init_350 rfl ?_
  refine g_sipush dX12_init_351 rfl ?_
  refine g_newarr0 (N := 5638) (n := 140) (z' := (zt 279)) (mc' := 2) (ms' := 30) zn_zt_278 zt_279 dX12_init_354 ac_0 rfl (by decide) sh_140 (by decide) rfl (zb_zt 278) (by decide) (fun q => (hu_far (by decide) (far_le (N2 := 140) (by decide) h0)) 140 q (by decide) (by decide)) rfl rfl rfl rfl ?_
  refine g_putF0 (z' := (zt 280)) zt_280 dX12_init_356 fl_X12_162 sh_97 (by rw [zn_zt_279]; decide) (fun _ _ _ => rfl) (narR rfl) rfl rfl ?_
  refine g_aload_n dX12_init_359 rfl ?_
  refine g_bipush dX12_init_360 rfl ?_
  refine g_newarr0 (N := 28) (n := 141) (z' := (zt 281)) (mc' := 1) (ms' := 2) zn_zt_280 zt_281 dX12_init_362 ac_2 rfl (by decide) sh_141 (by decide) rfl (zb_zt 280) (by decide) (fun q => (hu_far (by decide) (far_le (N2 := 141) (by decide) h0)) 141 q (by decide) (by decide)) rfl rfl rfl rfl ?_
  refine g_putF0 (z' := (zt 282)) zt_282 dX12_init_364 fl_X12_165 sh_97 (by rw [zn_zt_281]; decide) (fun _ _ _ => rfl) (narR rfl) rfl rfl ?_
  refine g_aload_n dX12_init_367 rfl ?_
  refine g_iconst dX12_init_368 ?_
  refine g_newarr0 (N := 2) (n := 142) (z' := (zt 283)) (mc' := 0) (ms' := 0) zn_zt_282 zt_283 dX12_init_369 ac_3 rfl (by decide) sh_142 (by decide) rfl (zb_zt 282) (by decide) (fun q => (hu_far (by decide) (far_le (N2 := 142) (by decide) h0)) 142 q (by decide) (by decide)) rfl rfl rfl rfl ?_
  refine g_putF0 (z' := (zt 284)) zt_284 dX12_init_371 fl_X12_168 sh_97 (by rw [zn_zt_283]; decide) (fun _ _ _ => rfl) (narR rfl) rfl rfl ?_
  refine g_aload_n dX12_init_374 rfl ?_
  refine g_getR (v := some 102) dX12_init_375 fl_X12_44 sh_97 (by rw [zn_zt_284]; decide) (fun _ _ _ => rfl) rt_284_97_9 ?_
  refine g_iconst dX12_init_378 ?_
  refine g_ldc2 (n := 422608528232) dX12_init_379 kl_X12_171 rfl ?_
  refine g_last dX12_init_382 sh_102 (by rw [zn_zt_284]; decide) (Nat.le_of_ble_eq_true rfl) (by decide) ?_
  refine g_aload_n dX12_init_383 rfl ?_
  refine g_getR (v := some 102) dX12_init_384 fl_X12_44 sh_97 (by rw [zn_zt_284]; decide) (fun _ _ _ => rfl) rt_284_97_9 ?_
  refine g_iconst dX12_init_387 ?_
  refine g_ldc2 (n := 6451064) dX12_init_388 kl_X12_173 rfl ?_
  refine g_last dX12_init_391 sh_102 (by rw [zn_zt_284]; decide) (Nat.le_of_ble_eq_true rfl) (by decide) ?_
  refine g_aload_n dX12_init_392 rfl ?_
  refine g_getR (v := some 102) dX12_init_393 fl_X12_44 sh_97 (by rw [zn_zt_284]; decide) (fun _ _ _ => rfl) rt_284_97_9 ?_
  refine g_iconst dX12_init_396 ?_
  refine g_ldc2 (n := 1717658725) dX12_init_397 kl_X12_175 rfl ?_
  refine g_last dX12_init_400 sh_102 (by rw [zn_zt_284]; decide) (Nat.le_of_ble_eq_true rfl) (by decide) ?_
  refine g_aload_n dX12_init_401 rfl ?_
  refine g_getR (v := some 102) dX12_init_402 fl_X12_44 sh_97 (by rw [zn_zt_284]; decide) (fun _ _ _ => rfl) rt_284_97_9 ?_
  refine g_iconst dX12_init_405 ?_
  refine g_ldc2 (n := 439905906546) dX12_init_406 kl_X12_177 rfl ?_
  refine g_last dX12_init_409 sh_102 (by rw [zn_zt_284]; decide) (Nat.le_of_ble_eq_true rfl) (by decide) ?_
  refine g_aload_n dX12_init_410 rfl ?_
  refine g_getR (v := some 102) dX12_init_411 fl_X12_44 sh_97 (by rw [zn_zt_284]; decide) (fun _ _ _ => rfl) rt_284_97_9 ?_
  refine g_iconst dX12_init_414 ?_
  refine g_ldc2 (n := 422725379428) dX12_init_415 kl_X12_179 rfl ?_
  refine g_last dX12_init_418 sh_102 (by rw [zn_zt_284]; decide) (Nat.le_of_ble_eq_true rfl) (by decide) ?_
  refine g_aload_n dX12_init_419 rfl ?_
  refine g_getR (v := some 102) dX12_init_420 fl_X12_44 sh_97 (by rw [zn_zt_284]; decide) (fun _ _ _ => rfl) rt_284_97_9 ?_
  refine g_iconst dX12_init_423 ?_
  refine g_ldc2 (n := 1718973285) dX12_init_424 kl_X12_181 rfl ?_
  refine g_last dX12_init_427 sh_102 (by rw [zn_zt_284]; decide) (Nat.le_of_ble_eq_true rfl) (by decide) ?_
  refine g_aload_n dX12_init_428 rfl ?_
  refine g_getR (v := some 102) dX12_init_429 fl_X12_44 sh_97 (by rw [zn_zt_284]; decide) (fun _ _ _ => rfl) rt_284_97_9 ?_
  refine g_bipush dX12_init_432 rfl ?_
  refine g_ldc2 (n := 474315584357) dX12_init_434 kl_X12_183 rfl ?_
  refine g_last dX12_init_437 sh_102 (by rw [zn_zt_284]; decide) (Nat.le_of_ble_eq_true rfl) (by decide) ?_
  refine g_aload_n dX12_init_438 rfl ?_
  refine g_getR (v := some 102) dX12_init_439 fl_X12_44 sh_97 (by rw [zn_zt_284]; decide) (fun _ _ _ => rfl) rt_284_97_9 ?_
  refine g_bipush dX12_init_442 rfl ?_
  refine g_ldc2 (n := 1818583403) dX12_init_444 kl_X12_185 rfl ?_
  refine g_last dX12_init_447 sh_102 (by rw [zn_zt_284]; decide) (Nat.le_of_ble_eq_true rfl) (by decide) ?_
  refine g_aload_n dX12_init_448 rfl ?_
  refine g_getR (v := some 102) dX12_init_449 fl_X12_44 sh_97 (by rw [zn_zt_284]; decide) (fun _ _ _ => rfl) rt_284_97_9 ?_
  refine g_bipush dX12_init_452 rfl ?_
  refine g_ldc2 (n := 1786080624) dX12_init_454 kl_X12_187 rfl ?_
  refine g_last dX12_init_457 sh_102 (by rw [zn_zt_284]; decide) (Nat.le_of_ble_eq_true rfl) (by decide) ?_
  refine g_aload_n dX12_init_458 rfl ?_
  refine g_getR (v := some 102) dX12_init_459 fl_X12_44 sh_97 (by rw [zn_zt_284]; decide) (fun _ _ _ => rfl) rt_284_97_9 ?_
  refine g_bipush dX12_init_462 rfl ?_
  refine g_ldc2 (n := 2002874989) dX12_init_464 kl_X12_189 rfl ?_
  refine g_last dX12_init_467 sh_102 (by rw [zn_zt_284]; decide) (Nat.le_of_ble_eq_true rfl) (by decide) ?_
  refine g_aload_n dX12_init_468 rfl ?_
  refine g_getR (v := some 102) dX12_init_469 fl_X12_44 sh_97 (by rw [zn_zt_284]; decide) (fun _ _ _ => rfl) rt_284_97_9 ?_
  refine g_bipush dX12_init_472 rfl ?_
  refine g_ldc2 (n := 28530) dX12_init_474 kl_X12_191 rfl ?_
  refine g_last dX12_init_477 sh_102 (by rw [zn_zt_284]; decide) (Nat.le_of_ble_eq_true rfl) (by decide) ?_
  refine g_aload_n dX12_init_478 rfl ?_
  refine g_getR (v := some 102) dX12_init_479 fl_X12_44 sh_97 (by rw [zn_zt_284]; decide) (fun _ _ _ => rfl) rt_284_97_9 ?_
  refine g_bipush dX12_init_482 rfl ?_
  refine g_ldc2 (n := 6385252) dX12_init_484 kl_X12_193 rfl ?_
  refine g_last dX12_init_487 sh_102 (by rw [zn_zt_284]; decide) (Nat.le_of_ble_eq_true rfl) (by decide) ?_
  refine g_aload_n dX12_init_488 rfl ?_
  refine g_getR (v := some 102) dX12_init_489 fl_X12_44 sh_97 (by rw [zn_zt_284]; decide) (fun _ _ _ => rfl) rt_284_97_9 ?_
  refine g_bipush dX12_init_492 rfl ?_
  refine g_ldc2 (n := 7237492) dX12_init_494 kl_X12_195 rfl ?_
  refine g_last dX12_init_497 sh_102 (by rw [zn_zt_284]; decide) (Nat.le_of_ble_eq_true rfl) (by decide) ?_
  refine g_aload_n dX12_init_498 rfl ?_
  refine g_getR (v := some 102) dX12_init_499 fl_X12_44 sh_97 (by rw [zn_zt_284]; decide) (fun _ _ _ => rfl) rt_284_97_9 ?_
  refine g_bipush dX12_init_502 rfl ?_
  refine g_ldc2 (n := 26990) dX12_init_504 kl_X12_197 rfl ?_
  refine g_last dX12_init_507 sh_102 (by rw [zn_zt_284]; decide) (Nat.le_of_ble_eq_true rfl) (by decide) ?_
  refine g_aload_n dX12_init_508 rfl ?_
  refine g_getR (v := some 102) dX12_init_509 fl_X12_44 sh_97 (by rw [zn_zt_284]; decide) (fun _ _ _ => rfl) rt_284_97_9 ?_
  refine g_bipush dX12_init_512 rfl ?_
  refine g_ldc2 (n := 1818846579) dX12_init_514 kl_X12_199 rfl ?_
  refine g_last dX12_init_517 sh_102 (by rw [zn_zt_284]; decide) (Nat.le_of_ble_eq_true rfl) (by decide) ?_
  refine g_aload_n dX12_init_518 rfl ?_
  refine g_getR (v := some 102) dX12_init_519 fl_X12_44 sh_97 (by rw [zn_zt_284]; decide) (fun _ _ _ => rfl) rt_284_97_9 ?_
  refine g_bipush dX12_init_522 rfl ?_
  refine g_ldc2 (n := 1970496868) dX12_init_524 kl_X12_201 rfl ?_
  refine g_last dX12_init_527 sh_102 (by rw [zn_zt_284]; decide) (Nat.le_of_ble_eq_true rfl) (by decide) ?_
  refine g_aload_n dX12_init_528 rfl ?_
  refine g_getR (v := some 102) dX12_init_529 fl_X12_44 sh_97 (by rw [zn_zt_284]; decide) (fun _ _ _ => rfl) rt_284_97_9 ?_
  refine g_bipush dX12_init_532 rfl ?_
  refine g_ldc2 (n := 1752132708) dX12_init_534 kl_X12_203 rfl ?_
  refine g_last dX12_init_537 sh_102 (by rw [zn_zt_284]; decide) (Nat.le_of_ble_eq_true rfl) (by decide) ?_
  refine g_aload_n dX12_init_538 rfl ?_
  refine g_getR (v := some 102) dX12_init_539 fl_X12_44 sh_97 (by rw [zn_zt_284]; decide) (fun _ _ _ => rfl) rt_284_97_9 ?_
  refine g_bipush dX12_init_542 rfl ?_
  refine g_ldc2 (n := 1885434739) dX12_init_544 kl_X12_205 rfl ?_
  refine g_last dX12_init_547 sh_102 (by rw [zn_zt_284]; decide) (Nat.le_of_ble_eq_true rfl) (by decide) ?_
  refine g_aload_n dX12_init_548 rfl ?_
  refine g_getR (v := some 102) dX12_init_549 fl_X12_44 sh_97 (by rw [zn_zt_284]; decide) (fun _ _ _ => rfl) rt_284_97_9 ?_
  refine g_bipush dX12_init_552 rfl ?_
  refine g_ldc2 (n := 126926792778084) dX12_init_554 kl_X12_207 rfl ?_
  refine g_last dX12_init_557 sh_102 (by rw [zn_zt_284]; decide) (Nat.le_of_ble_eq_true rfl) (by decide) ?_
  refine g_aload_n dX12_init_558 rfl ?_
  refine g_getR (v := some 102) dX12_init_559 fl_X12_44 sh_97 (by rw [zn_zt_284]; decide) (fun _ _ _ => rfl) rt_284_97_9 ?_
  refine g_bipush dX12_init_562 rfl ?_
  refine g_ldc2 (n := 1667591276) dX12_init_564 kl_X12_209 rfl ?_
  refine g_last dX12_init_567 sh_102 (by rw [zn_zt_284]; decide) (Nat.le_of_ble_eq_true rfl) (by decide) ?_
  refine g_aload_n dX12_init_568 rfl ?_
  refine g_getR (v := some 102) dX12_init_569 fl_X12_44 sh_97 (by rw [zn_zt_284]; decide) (fun _ _ _ => rfl) rt_284_97_9 ?_
  refine g_bipush dX12_init_572 rfl ?_
  refine g_ldc2 (n := 495874894192) dX12_init_574 kl_X12_211 rfl ?_
  refine g_last dX12_init_577 sh_102 (by rw [zn_zt_284]; decide) (Nat.le_of_ble_eq_true rfl) (by decide) ?_
  refine g_aload_n dX12_init_578 rfl ?_
  refine g_getR (v := some 102) dX12_init_579 fl_X12_44 sh_97 (by rw [zn_zt_284]; decide) (fun _ _ _ => rfl) rt_284_97_9 ?_
  refine g_bipush dX12_init_582 rfl ?_
  refine g_ldc2 (n := 418330731890) dX12_init_584 kl_X12_213 rfl ?_
  refine g_last dX12_init_587 sh_102 (by rw [zn_zt_284]; decide) (Nat.le_of_ble_eq_true rfl) (by decide) ?_
  refine g_aload_n dX12_init_588 rfl ?_
  refine g_getR (v := some 102) dX12_init_589 fl_X12_44 sh_97 (by rw [zn_zt_284]; decide) (fun _ _ _ => rfl) rt_284_97_9 ?_
  refine g_bipush dX12_init_592 rfl ?_
  refine g_ldc2 (n := 1852137842) dX12_init_594 kl_X12_215 rfl ?_
  refine g_last dX12_init_597 sh_102 (by rw [zn_zt_284]; decide) (Nat.le_of_ble_eq_true rfl) (by decide) ?_
  refine g_aload_n dX12_init_598 rfl ?_
  refine g_callVV (n := 0) (As := []) (st := []) dX12_init_599 ml_X12_217 sh_97 rfl (by rw [zn_zt_284]; decide) rfl rfl (Nat.le_of_ble_eq_true rfl) (Ret.mono (k_X12_plainHouse_97_284 (hu_far (by decide) (hu_far (by decide) (hu_far (by decide) (hu_far (by decide) (hu_far (by decide) (hu_far (by decide) (hu_far (by decide) (hu_far (by decide) (hu_far (by decide) (hu_far (by decide) (hu_far (by decide) (hu_far (by decide) (hu_far (by decide) (hu_far (by decide) (hu_far (by decide) (hu_far (by decide) (hu_far (by decide) (hu_far (by decide) (hu_far (by decide) (hu_far (by decide) (hu_far (by decide) (hu_far (by decide) (hu_far (by decide) (hu_far (by decide) (far_le (N2 := 143) (by decide) h0)))))))))))))))))))))))))) (fun v h' z' q => ?_))
  obtain ⟨rfl, rfl, rfl⟩ := q
  refine ⟨rfl, rfl, ?_⟩
  refine g_iconst dX12_init_602 ?_
  refine g_istore_n (ls' := [aP 97, aI 0]) dX12_init_603 (Nat.le_of_ble_eq_true rfl) rfl rfl ?_
  refine g_iload_n dX12_init_604 rfl ?_
  refine g_bipush dX12_init_605 rfl ?_
  refine g_cmp_ge (tgt := 628) dX12_init_607 rfl (by decide) (by decide) ?_
  rw [if_neg (by decide)]
  refine g_aload_n dX12_init_610 rfl ?_
  refine g_getR (v := some 99) dX12_init_611 fl_X12_33 sh_97 (by rw [zn_zt_284]; decide) (fun _ _ _ => rfl) rt_284_97_6 ?_
  refine g_iload_n dX12_init_614 rfl ?_
  refine g_aload_n dX12_init_615 rfl ?_
  refine g_getR (v := some 100) dX12_init_616 fl_X12_37 sh_97 (by rw [zn_zt_284]; decide) (fun _ _ _ => rfl) rt_284_97_7 ?_
  refine g_iload_n dX12_init_619 rfl ?_
  refine g_iald0 (v := 0) dX12_init_620 sh_100 (by rw [zn_zt_284]; decide) (Nat.le_of_ble_eq_true rfl) (by decide) (by simp [hu]) ?_
  refine g_iast dX12_init_621 sh_99 (by rw [zn_zt_284]; decide) (Nat.le_of_ble_eq_true rfl) (by decide) ?_
  refine g_iinc (ls' := [aP 97, aI 1]) dX12_init_622 rfl (Nat.le_of_ble_eq_true rfl) rfl rfl ?_
  refine g_goto (tgt := 604) dX12_init_625 rfl ?_
  refine g_iload_n dX12_init_604 rfl ?_
  refine g_bipush dX12_init_605 rfl ?_
  refine g_cmp_ge (tgt := 628) dX12_init_607 rfl (by decide) (by decide) ?_
  rw [if_neg (by decide)]
  refine g_aload_n dX12_init_610 rfl ?_
  refine g_getR (v := some 99) dX12_init_611 fl_X12_33 sh_97 (by rw [zn_zt_284]; decide) (fun _ _ _ => rfl) rt_284_97_6 ?_
  refine g_iload_n dX12_init_614 rfl ?_
  refine g_aload_n dX12_init_615 rfl ?_
  refine g_getR (v := some 100) dX12_init_616 fl_X12_37 sh_97 (by rw [zn_zt_284]; decide) (fun _ _ _ => rfl) rt_284_97_7 ?_
  refine g_iload_n dX12_init_619 rfl ?_
  refine g_iald0 (v := 0) dX12_init_620 sh_100 (by rw [zn_zt_284]; decide) (Nat.le_of_ble_eq_true rfl) (by decide) (by simp [hu]) ?_
  refine g_iast dX12_init_621 sh_99 (by rw [zn_zt_284]; decide) (Nat.le_of_ble_eq_true rfl) (by decide) ?_
  refine g_iinc (ls' := [aP 97, aI 2]) dX12_init_622 rfl (Nat.le_of_ble_eq_true rfl) rfl rfl ?_
  refine g_goto (tgt := 604) dX12_init_625 rfl ?_
  refine g_iload_n dX12_init_604 rfl ?_
  refine g_bipush dX12_init_605 rfl ?_
  refine g_cmp_ge (tgt := 628) dX12_init_607 rfl (by decide) (by decide) ?_
  rw [if_neg (by decide)]
  refine g_aload_n dX12_init_610 rfl ?_
  refine g_getR (v := some 99) dX12_init_611 fl_X12_33 sh_97 (by rw [zn_zt_284]; decide) (fun _ _ _ => rfl) rt_284_97_6 ?_
  refine g_iload_n dX12_init_614 rfl ?_
  refine g_aload_n dX12_init_615 rfl ?_
  refine g_getR (v := some 100) dX12_init_616 fl_X12_37 sh_97 (by rw [zn_zt_284]; decide) (fun _ _ _ => rfl) rt_284_97_7 ?_
  refine g_iload_n dX12_init_619 rfl ?_
  refine g_iald0 (v := 2) dX12_init_620 sh_100 (by rw [zn_zt_284]; decide) (Nat.le_of_ble_eq_true rfl) (by decide) (by simp [hu]) ?_
  refine g_iast dX12_init_621 sh_99 (by rw [zn_zt_284]; decide) (Nat.le_of_ble_eq_true rfl) (by decide) ?_
  refine g_iinc (ls' := [aP 97, aI 3]) dX12_init_622 rfl (Nat.le_of_ble_eq_true rfl) rfl rfl ?_
  refine g_goto (tgt := 604) dX12_init_625 rfl ?_
  refine g_iload_n dX12_init_604 rfl ?_
  refine g_bipush dX12_init_605 rfl ?_
  refine g_cmp_ge (tgt := 628) dX12_init_607 rfl (by decide) (by decide) ?_
  rw [if_neg (by decide)]
  refine g_aload_n dX12_init_610 rfl ?_
  refine g_getR (v := some 99) dX12_init_611 fl_X12_33 sh_97 (by rw [zn_zt_284]; decide) (fun _ _ _ => rfl) rt_284_97_6 ?_
  refine g_iload_n dX12_init_614 rfl ?_
  refine g_aload_n dX12_init_615 rfl ?_
  refine g_getR (v := some 100) dX12_init_616 fl_X12_37 sh_97 (by rw [zn_zt_284]; decide) (fun _ _ _ => rfl) rt_284_97_7 ?_
  refine g_iload_n dX12_init_619 rfl ?_
  refine g_iald0 (v := 1) dX12_init_620 sh_100 (by rw [zn_zt_284]; decide) (Nat.le_of_ble_eq_true rfl) (by decide) (by simp [hu]) ?_
  refine g_iast dX12_init_621 sh_99 (by rw [zn_zt_284]; decide) (Nat.le_of_ble_eq_true rfl) (by decide) ?_
  refine g_iinc (ls' := [aP 97, aI 4]) dX12_init_622 rfl (Nat.le_of_ble_eq_true rfl) rfl rfl ?_
  refine g_goto (tgt := 604) dX12_init_625 rfl ?_
  refine g_iload_n dX12_init_604 rfl ?_
  refine g_bipush dX12_init_605 rfl ?_
  refine g_cmp_ge (tgt := 628) dX12_init_607 rfl (by decide) (by decide) ?_
  rw [if_neg (by decide)]
  refine g_aload_n dX12_init_610 rfl ?_
  refine g_getR (v := some 99) dX12_init_611 fl_X12_33 sh_97 (by rw [zn_zt_284]; decide) (fun _ _ _ => rfl) rt_284_97_6 ?_
  refine g_iload_n dX12_init_614 rfl ?_
  refine g_aload_n dX12_init_615 rfl ?_
  refine g_getR (v := some 100) dX12_init_616 fl_X12_37 sh_97 (by rw [zn_zt_284]; decide) (fun _ _ _ => rfl) rt_284_97_7 ?_
  refine g_iload_n dX12_init_619 rfl ?_
  refine g_iald0 (v := 100) dX12_init_620 sh_100 (by rw [zn_zt_284]; decide) (Nat.le_of_ble_eq_true rfl) (by decide) (by simp [hu]) ?_
  refine g_iast dX12_init_621 sh_99 (by rw [zn_zt_284]; decide) (Nat.le_of_ble_eq_true rfl) (by decide) ?_
  refine g_iinc (ls' := [aP 97, aI 5]) dX12_init_622 rfl (Nat.le_of_ble_eq_true rfl) rfl rfl ?_
  refine g_goto (tgt := 604) dX12_init_625 rfl ?_
  refine g_iload_n dX12_init_604 rfl ?_
  refine g_bipush dX12_init_605 rfl ?_
  refine g_cmp_ge (tgt := 628) dX12_init_607 rfl (by decide) (by decide) ?_
  rw [if_neg (by decide)]
  refine g_aload_n dX12_init_610 rfl ?_
  refine g_getR (v := some 99) dX12_init_611 fl_X12_33 sh_97 (by rw [zn_zt_284]; decide) (fun _ _ _ => rfl) rt_284_97_6 ?_
  refine g_iload_n dX12_init_614 rfl ?_
  refine g_aload_n dX12_init_615 rfl ?_
  refine g_getR (v := some 100) dX12_init_616 fl_X12_37 sh_97 (by rw [zn_zt_284]; decide) (fun _ _ _ => rfl) rt_284_97_7 ?_
  refine g_iload_n dX12_init_619 rfl ?_
  refine g_iald0 (v := 5) dX12_init_620 sh_100 (by rw [zn_zt_284]; decide) (Nat.le_of_ble_eq_true rfl) (by decide) (by simp [hu]) ?_
  refine g_iast dX12_init_621 sh_99 (by rw [zn_zt_284]; decide) (Nat.le_of_ble_eq_true rfl) (by decide) ?_
  refine g_iinc (ls' := [aP 97, aI 6]) dX12_init_622 rfl (Nat.le_of_ble_eq_true rfl) rfl rfl ?_
  refine g_goto (tgt := 604) dX12_init_625 rfl ?_
  refine g_iload_n dX12_init_604 rfl ?_
  refine g_bipush dX12_init_605 rfl ?_
  refine g_cmp_ge (tgt := 628) dX12_init_607 rfl (by decide) (by decide) ?_
  rw [if_neg (by decide)]
  refine g_aload_n dX12_init_610 rfl ?_
  refine g_getR (v := some 99) dX12_init_611 fl_X12_33 sh_97 (by rw [zn_zt_284]; decide) (fun _ _ _ => rfl) rt_284_97_6 ?_
  refine g_iload_n dX12_init_614 rfl ?_
  refine g_aload_n dX12_init_615 rfl ?_
  refine g_getR (v := some 100) dX12_init_616 fl_X12_37 sh_97 (by rw [zn_zt_284]; decide) (fun _ _ _ => rfl) rt_284_97_7 ?_
  refine g_iload_n dX12_init_619 rfl ?_
  refine g_iald0 (v := 100) dX12_init_620 sh_100 (by rw [zn_zt_284]; decide) (Nat.le_of_ble_eq_true rfl) (by decide) (by simp [hu]) ?_
  refine g_iast dX12_init_621 sh_99 (by rw [zn_zt_284]; decide) (Nat.le_of_ble_eq_true rfl) (by decide) ?_
  refine g_iinc (ls' := [aP 97, aI 7]) dX12_init_622 rfl (Nat.le_of_ble_eq_true rfl) rfl rfl ?_
  refine g_goto (tgt := 604) dX12_init_625 rfl ?_
  refine g_iload_n dX12_init_604 rfl ?_
  refine g_bipush dX12_init_605 rfl ?_
  refine g_cmp_ge (tgt := 628) dX12_init_607 rfl (by decide) (by decide) ?_
  rw [if_neg (by decide)]
  refine g_aload_n dX12_init_610 rfl ?_
  refine g_getR (v := some 99) dX12_init_611 fl_X12_33 sh_97 (by rw [zn_zt_284]; decide) (fun _ _ _ => rfl) rt_284_97_6 ?_
  refine g_iload_n dX12_init_614 rfl ?_
  refine g_aload_n dX12_init_615 rfl ?_
  refine g_getR (v := some 100) dX12_init_616 fl_X12_37 sh_97 (by rw [zn_zt_284]; decide) (fun _ _ _ => rfl) rt_284_97_7 ?_
  refine g_iload_n dX12_init_619 rfl ?_
  refine g_iald0 (v := 2) dX12_init_620 sh_100 (by rw [zn_zt_284]; decide) (Nat.le_of_ble_eq_true rfl) (by decide) (by simp [hu]) ?_
  refine g_iast dX12_init_621 sh_99 (by rw [zn_zt_284]; decide) (Nat.le_of_ble_eq_true rfl) (by decide) ?_
  refine g_iinc (ls' := [aP 97, aI 8]) dX12_init_622 rfl (Nat.le_of_ble_eq_true rfl) rfl rfl ?_
  refine g_goto (tgt := 604) dX12_init_625 rfl ?_
  refine g_iload_n dX12_init_604 rfl ?_
  refine g_bipush dX12_init_605 rfl ?_
  refine g_cmp_ge (tgt := 628) dX12_init_607 rfl (by decide) (by decide) ?_
  rw [if_neg (by decide)]
  refine g_aload_n dX12_init_610 rfl ?_
  refine g_getR (v := some 99) dX12_init_611 fl_X12_33 sh_97 (by rw [zn_zt_284]; decide) (fun _ _ _ => rfl) rt_284_97_6 ?_
  refine g_iload_n dX12_init_614 rfl ?_
  refine g_aload_n dX12_init_615 rfl ?_
  refine g_getR (v := some 100) dX12_init_616 fl_X12_37 sh_97 (by rw [zn_zt_284]; decide) (fun _ _ _ => rfl) rt_284_97_7 ?_
  refine g_iload_n dX12_init_619 rfl ?_
  refine g_iald0 (v := 3) dX12_init_620 sh_100 (by rw [zn_zt_284]; decide) (Nat.le_of_ble_eq_true rfl) (by decide) (by simp [hu]) ?_
  refine g_iast dX12_init_621 sh_99 (by rw [zn_zt_284]; decide) (Nat.le_of_ble_eq_true rfl) (by decide) ?_
  refine g_iinc (ls' := [aP 97, aI 9]) dX12_init_622 rfl (Nat.le_of_ble_eq_true rfl) rfl rfl ?_
  refine g_goto (tgt := 604) dX12_init_625 rfl ?_
  refine g_iload_n dX12_init_604 rfl ?_
  refine g_bipush dX12_init_605 rfl ?_
  refine g_cmp_ge (tgt := 628) dX12_init_607 rfl (by decide) (by decide) ?_
  rw [if_neg (by decide)]
  refine g_aload_n dX12_init_610 rfl ?_
  refine g_getR (v := some 99) dX12_init_611 fl_X12_33 sh_97 (by rw [zn_zt_284]; decide) (fun _ _ _ => rfl) rt_284_97_6 ?_
  refine g_iload_n dX12_init_614 rfl ?_
  refine g_aload_n dX12_init_615 rfl ?_
  refine g_getR (v := some 100) dX12_init_616 fl_X12_37 sh_97 (by rw [zn_zt_284]; decide) (fun _ _ _ => rfl) rt_284_97_7 ?_
  refine g_iload_n dX12_init_619 rfl ?_
  refine g_iald0 (v := 20) dX12_init_620 sh_100 (by rw [zn_zt_284]; decide) (Nat.le_of_ble_eq_true rfl) (by decide) (by simp [hu]) ?_
  refine g_iast dX12_init_621 sh_99 (by rw [zn_zt_284]; decide) (Nat.le_of_ble_eq_true rfl) (by decide) ?_
  refine g_iinc (ls' := [aP 97, aI 10]) dX12_init_622 rfl (Nat.le_of_ble_eq_true rfl) rfl rfl ?_
  refine g_goto (tgt := 604) dX12_init_625 rfl ?_
  refine g_iload_n dX12_init_604 rfl ?_
  refine g_bipush dX12_init_605 rfl ?_
  refine g_cmp_ge (tgt := 628) dX12_init_607 rfl (by decide) (by decide) ?_
  rw [if_neg (by decide)]
  refine g_aload_n dX12_init_610 rfl ?_
  refine g_getR (v := some 99) dX12_init_611 fl_X12_33 sh_97 (by rw [zn_zt_284]; decide) (fun _ _ _ => rfl) rt_284_97_6 ?_
  refine g_iload_n dX12_init_614 rfl ?_
  refine g_aload_n dX12_init_615 rfl ?_
  refine g_getR (v := some 100) dX12_init_616 fl_X12_37 sh_97 (by rw [zn_zt_284]; decide) (fun _ _ _ => rfl) rt_284_97_7 ?_
  refine g_iload_n dX12_init_619 rfl ?_
  refine g_iald0 (v := 40) dX12_init_620 sh_100 (by rw [zn_zt_284]; decide) (Nat.le_of_ble_eq_true rfl) (by decide) (by simp [hu]) ?_
  refine g_iast dX12_init_621 sh_99 (by rw [zn_zt_284]; decide) (Nat.le_of_ble_eq_true rfl) (by decide) ?_
  refine g_iinc (ls' := [aP 97, aI 11]) dX12_init_622 rfl (Nat.le_of_ble_eq_true rfl) rfl rfl ?_
  refine g_goto (tgt := 604) dX12_init_625 rfl ?_
  refine g_iload_n dX12_init_604 rfl ?_
  refine g_bipush dX12_init_605 rfl ?_
  refine g_cmp_ge (tgt := 628) dX12_init_607 rfl (by decide) (by decide) ?_
  rw [if_pos (by decide)]
  exact g_retv dX12_init_628 rfl ⟨rfl, rfl, rfl⟩
