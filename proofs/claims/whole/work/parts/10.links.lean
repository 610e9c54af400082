theorem tbk_1 {w : Cond} (i : Nat) (h0 : tables_1_1[i]? = some w) (hg : goodWord w = true) : w ∈ TB := tb_of (List.mem_append_right _ (have h := List.mem_of_getElem? h0; (List.mem_append_left _ h))) hg
theorem tbk_2 {w : Cond} (i : Nat) (h0 : tables_1_2[i]? = some w) (hg : goodWord w = true) : w ∈ TB := tb_of (List.mem_append_right _ (have h := List.mem_of_getElem? h0; (List.mem_append_right _ (List.mem_append_left _ h)))) hg
theorem tbk_3 {w : Cond} (i : Nat) (h0 : tables_1_3[i]? = some w) (hg : goodWord w = true) : w ∈ TB := tb_of (List.mem_append_right _ (have h := List.mem_of_getElem? h0; (List.mem_append_right _ (List.mem_append_right _ (List.mem_append_left _ h))))) hg
theorem tbk_4 {w : Cond} (i : Nat) (h0 : tables_1_4[i]? = some w) (hg : goodWord w = true) : w ∈ TB := tb_of (List.mem_append_right _ (have h := List.mem_of_getElem? h0; (List.mem_append_right _ (List.mem_append_right _ (List.mem_append_right _ (List.mem_append_left _ h)))))) hg
theorem tbk_5 {w : Cond} (i : Nat) (h0 : tables_1_5[i]? = some w) (hg : goodWord w = true) : w ∈ TB := tb_of (List.mem_append_right _ (have h := List.mem_of_getElem? h0; (List.mem_append_right _ (List.mem_append_right _ (List.mem_append_right _ (List.mem_append_right _ (List.mem_append_left _ h))))))) hg
theorem tbk_6 {w : Cond} (i : Nat) (h0 : tables_1_6[i]? = some w) (hg : goodWord w = true) : w ∈ TB := tb_of (List.mem_append_right _ (have h := List.mem_of_getElem? h0; (List.mem_append_right _ (List.mem_append_right _ (List.mem_append_right _ (List.mem_append_right _ (List.mem_append_right _ (List.mem_append_left _ h)))))))) hg
theorem tbk_7 {w : Cond} (i : Nat) (h0 : tables_1_7[i]? = some w) (hg : goodWord w = true) : w ∈ TB := tb_of (List.mem_append_right _ (have h := List.mem_of_getElem? h0; (List.mem_append_right _ (List.mem_append_right _ (List.mem_append_right _ (List.mem_append_right _ (List.mem_append_right _ (List.mem_append_right _ (List.mem_append_left _ h))))))))) hg
theorem tbk_8 {w : Cond} (i : Nat) (h0 : tables_1_8[i]? = some w) (hg : goodWord w = true) : w ∈ TB := tb_of (List.mem_append_right _ (have h := List.mem_of_getElem? h0; (List.mem_append_right _ (List.mem_append_right _ (List.mem_append_right _ (List.mem_append_right _ (List.mem_append_right _ (List.mem_append_right _ (List.mem_append_right _ (List.mem_append_left _ h)))))))))) hg
theorem tbk_9 {w : Cond} (i : Nat) (h0 : tables_1_9[i]? = some w) (hg : goodWord w = true) : w ∈ TB := tb_of (List.mem_append_right _ (have h := List.mem_of_getElem? h0; (List.mem_append_right _ (List.mem_append_right _ (List.mem_append_right _ (List.mem_append_right _ (List.mem_append_right _ (List.mem_append_right _ (List.mem_append_right _ (List.mem_append_right _ (List.mem_append_left _ h))))))))))) hg
theorem tbk_10 {w : Cond} (i : Nat) (h0 : tables_1_10[i]? = some w) (hg : goodWord w = true) : w ∈ TB := tb_of (List.mem_append_right _ (have h := List.mem_of_getElem? h0; (List.mem_append_right _ (List.mem_append_right _ (List.mem_append_right _ (List.mem_append_right _ (List.mem_append_right _ (List.mem_append_right _ (List.mem_append_right _ (List.mem_append_right _ (List.mem_append_right _ h))))))))))) hg
theorem cf0 : CF 0 RX0 TX0 := ⟨rfl, lays_in inX0, tyX0_ok, nmX0⟩
theorem cf1 : CF 1 RX1 TX1 := ⟨rfl, lays_in inX1, tyX1_ok, nmX1⟩
theorem cf2 : CF 2 RX2 TX2 := ⟨rfl, lays_in inX2, tyX2_ok, nmX2⟩
theorem cf3 : CF 3 RX3 TX3 := ⟨rfl, lays_in inX3, tyX3_ok, nmX3⟩
theorem cf4 : CF 4 RX4 TX4 := ⟨rfl, lays_in inX4, tyX4_ok, nmX4⟩
theorem cf5 : CF 5 RX5 TX5 := ⟨rfl, lays_in inX5, tyX5_ok, nmX5⟩
theorem cf6 : CF 6 RX6 TX6 := ⟨rfl, lays_in inX6, tyX6_ok, nmX6⟩
theorem cf7 : CF 7 RX7 TX7 := ⟨rfl, lays_in inX7, tyX7_ok, nmX7⟩
theorem cf8 : CF 8 RX8 TX8 := ⟨rfl, lays_in inX8, tyX8_ok, nmX8⟩
theorem cf9 : CF 9 RX9 TX9 := ⟨rfl, lays_in inX9, tyX9_ok, nmX9⟩
theorem cf10 : CF 10 RX10 TX10 := ⟨rfl, lays_in inX10, tyX10_ok, nmX10⟩
theorem cf11 : CF 11 RX11 TX11 := ⟨rfl, lays_in inX11, tyX11_ok, nmX11⟩
theorem cf12 : CF 12 RX12 TX12 := ⟨rfl, lays_in inX12, tyX12_ok, nmX12⟩
set_option maxRecDepth 20000 in
theorem fl_X11_10 : FLk RX11 10 11 0 true := ⟨_, _, cf11, Nat.le_of_ble_eq_true rfl, rfl, rfl, tbk_3 71 rfl rfl⟩
set_option maxRecDepth 20000 in
theorem fl_X11_19 : FLk RX11 19 11 1 true := ⟨_, _, cf11, Nat.le_of_ble_eq_true rfl, rfl, rfl, tbk_3 72 rfl rfl⟩
set_option maxRecDepth 20000 in
theorem fl_X11_23 : FLk RX11 23 11 2 true := ⟨_, _, cf11, Nat.le_of_ble_eq_true rfl, rfl, rfl, tbk_3 73 rfl rfl⟩
set_option maxRecDepth 20000 in
theorem fl_X11_30 : FLk RX11 30 11 3 true := ⟨_, _, cf11, Nat.le_of_ble_eq_true rfl, rfl, rfl, tbk_3 74 rfl rfl⟩
set_option maxRecDepth 20000 in
theorem fl_X11_37 : FLk RX11 37 11 4 true := ⟨_, _, cf11, Nat.le_of_ble_eq_true rfl, rfl, rfl, tbk_3 75 rfl rfl⟩
set_option maxRecDepth 20000 in
theorem fl_X11_44 : FLk RX11 44 11 5 true := ⟨_, _, cf11, Nat.le_of_ble_eq_true rfl, rfl, rfl, tbk_3 76 rfl rfl⟩
set_option maxRecDepth 20000 in
theorem fl_X11_48 : FLk RX11 48 11 6 true := ⟨_, _, cf11, Nat.le_of_ble_eq_true rfl, rfl, rfl, tbk_3 77 rfl rfl⟩
set_option maxRecDepth 20000 in
theorem fl_X11_55 : FLk RX11 55 11 7 true := ⟨_, _, cf11, Nat.le_of_ble_eq_true rfl, rfl, rfl, tbk_3 78 rfl rfl⟩
set_option maxRecDepth 20000 in
theorem fl_X11_62 : FLk RX11 62 11 8 true := ⟨_, _, cf11, Nat.le_of_ble_eq_true rfl, rfl, rfl, tbk_3 79 rfl rfl⟩
set_option maxRecDepth 20000 in
theorem fl_X11_69 : FLk RX11 69 11 9 true := ⟨_, _, cf11, Nat.le_of_ble_eq_true rfl, rfl, rfl, tbk_3 80 rfl rfl⟩
set_option maxRecDepth 20000 in
theorem fl_X11_73 : FLk RX11 73 11 10 false := ⟨_, _, cf11, Nat.le_of_ble_eq_true rfl, rfl, rfl, tbk_3 81 rfl rfl⟩
set_option maxRecDepth 20000 in
theorem fl_X11_77 : FLk RX11 77 11 11 false := ⟨_, _, cf11, Nat.le_of_ble_eq_true rfl, rfl, rfl, tbk_3 82 rfl rfl⟩
set_option maxRecDepth 20000 in
theorem fl_X11_80 : FLk RX11 80 11 12 false := ⟨_, _, cf11, Nat.le_of_ble_eq_true rfl, rfl, rfl, tbk_3 83 rfl rfl⟩
set_option maxRecDepth 20000 in
theorem fl_X11_86 : FLk RX11 86 11 13 false := ⟨_, _, cf11, Nat.le_of_ble_eq_true rfl, rfl, rfl, tbk_3 84 rfl rfl⟩
set_option maxRecDepth 20000 in
theorem fl_X11_90 : FLk RX11 90 11 14 false := ⟨_, _, cf11, Nat.le_of_ble_eq_true rfl, rfl, rfl, tbk_3 85 rfl rfl⟩
set_option maxRecDepth 20000 in
theorem fl_X11_96 : FLk RX11 96 11 15 true := ⟨_, _, cf11, Nat.le_of_ble_eq_true rfl, rfl, rfl, tbk_3 86 rfl rfl⟩
set_option maxRecDepth 20000 in
theorem fl_X11_100 : FLk RX11 100 7 1 false := ⟨_, _, cf7, Nat.le_of_ble_eq_true rfl, rfl, rfl, tbk_1 39 rfl rfl⟩
set_option maxRecDepth 20000 in
theorem fl_X11_111 : FLk RX11 111 7 9 false := ⟨_, _, cf7, Nat.le_of_ble_eq_true rfl, rfl, rfl, tbk_1 59 rfl rfl⟩
set_option maxRecDepth 20000 in
theorem fl_X11_118 : FLk RX11 118 8 0 false := ⟨_, _, cf8, Nat.le_of_ble_eq_true rfl, rfl, rfl, tbk_2 52 rfl rfl⟩
set_option maxRecDepth 20000 in
theorem fl_X11_122 : FLk RX11 122 0 5 false := ⟨_, _, cf0, Nat.le_of_ble_eq_true rfl, rfl, rfl, tbk_1 114 rfl rfl⟩
set_option maxRecDepth 20000 in
theorem fl_X11_125 : FLk RX11 125 7 8 false := ⟨_, _, cf7, Nat.le_of_ble_eq_true rfl, rfl, rfl, tbk_1 57 rfl rfl⟩
set_option maxRecDepth 20000 in
theorem fl_X11_128 : FLk RX11 128 5 0 true := ⟨_, _, cf5, Nat.le_of_ble_eq_true rfl, rfl, rfl, tbk_1 211 rfl rfl⟩
set_option maxRecDepth 20000 in
theorem fl_X11_149 : FLk RX11 149 5 5 false := ⟨_, _, cf5, Nat.le_of_ble_eq_true rfl, rfl, rfl, tbk_1 226 rfl rfl⟩
set_option maxRecDepth 20000 in
theorem fl_X11_156 : FLk RX11 156 5 10 false := ⟨_, _, cf5, Nat.le_of_ble_eq_true rfl, rfl, rfl, tbk_1 236 rfl rfl⟩
set_option maxRecDepth 20000 in
theorem fl_X11_159 : FLk RX11 159 5 11 true := ⟨_, _, cf5, Nat.le_of_ble_eq_true rfl, rfl, rfl, tbk_1 238 rfl rfl⟩
set_option maxRecDepth 20000 in
theorem fl_X11_162 : FLk RX11 162 5 14 true := ⟨_, _, cf5, Nat.le_of_ble_eq_true rfl, rfl, rfl, tbk_2 2 rfl rfl⟩
set_option maxRecDepth 20000 in
theorem fl_X11_175 : FLk RX11 175 8 1 true := ⟨_, _, cf8, Nat.le_of_ble_eq_true rfl, rfl, rfl, tbk_2 54 rfl rfl⟩
set_option maxRecDepth 20000 in
theorem fl_X11_179 : FLk RX11 179 8 2 true := ⟨_, _, cf8, Nat.le_of_ble_eq_true rfl, rfl, rfl, tbk_2 56 rfl rfl⟩
set_option maxRecDepth 20000 in
theorem fl_X11_182 : FLk RX11 182 8 3 true := ⟨_, _, cf8, Nat.le_of_ble_eq_true rfl, rfl, rfl, tbk_2 58 rfl rfl⟩
set_option maxRecDepth 20000 in
theorem fl_X11_185 : FLk RX11 185 5 4 true := ⟨_, _, cf5, Nat.le_of_ble_eq_true rfl, rfl, rfl, tbk_1 222 rfl rfl⟩
set_option maxRecDepth 20000 in
theorem fl_X11_188 : FLk RX11 188 5 2 true := ⟨_, _, cf5, Nat.le_of_ble_eq_true rfl, rfl, rfl, tbk_1 216 rfl rfl⟩
set_option maxRecDepth 20000 in
theorem fl_X11_192 : FLk RX11 192 1 1 true := ⟨_, _, cf1, Nat.le_of_ble_eq_true rfl, rfl, rfl, tbk_1 162 rfl rfl⟩
set_option maxRecDepth 20000 in
theorem fl_X11_204 : FLk RX11 204 5 3 false := ⟨_, _, cf5, Nat.le_of_ble_eq_true rfl, rfl, rfl, tbk_1 220 rfl rfl⟩
set_option maxRecDepth 20000 in
theorem fl_X11_225 : FLk RX11 225 0 2 true := ⟨_, _, cf0, Nat.le_of_ble_eq_true rfl, rfl, rfl, tbk_1 108 rfl rfl⟩
set_option maxRecDepth 20000 in
theorem fl_X11_231 : FLk RX11 231 5 1 true := ⟨_, _, cf5, Nat.le_of_ble_eq_true rfl, rfl, rfl, tbk_1 214 rfl rfl⟩
set_option maxRecDepth 20000 in
theorem fl_X11_238 : FLk RX11 238 3 2 false := ⟨_, _, cf3, Nat.le_of_ble_eq_true rfl, rfl, rfl, tbk_1 144 rfl rfl⟩
set_option maxRecDepth 20000 in
theorem fl_X11_257 : FLk RX11 257 8 4 true := ⟨_, _, cf8, Nat.le_of_ble_eq_true rfl, rfl, rfl, tbk_2 61 rfl rfl⟩
set_option maxRecDepth 20000 in
theorem fl_X11_267 : FLk RX11 267 2 2 false := ⟨_, _, cf2, Nat.le_of_ble_eq_true rfl, rfl, rfl, tbk_2 104 rfl rfl⟩
set_option maxRecDepth 20000 in
theorem fl_X11_270 : FLk RX11 270 2 0 false := ⟨_, _, cf2, Nat.le_of_ble_eq_true rfl, rfl, rfl, tbk_2 100 rfl rfl⟩
set_option maxRecDepth 20000 in
theorem fl_X11_273 : FLk RX11 273 2 1 true := ⟨_, _, cf2, Nat.le_of_ble_eq_true rfl, rfl, rfl, tbk_2 102 rfl rfl⟩
set_option maxRecDepth 20000 in
theorem fl_X11_276 : FLk RX11 276 2 3 false := ⟨_, _, cf2, Nat.le_of_ble_eq_true rfl, rfl, rfl, tbk_2 106 rfl rfl⟩
set_option maxRecDepth 20000 in
theorem fl_X11_279 : FLk RX11 279 2 4 false := ⟨_, _, cf2, Nat.le_of_ble_eq_true rfl, rfl, rfl, tbk_2 108 rfl rfl⟩
set_option maxRecDepth 20000 in
theorem fl_X11_283 : FLk RX11 283 6 1 true := ⟨_, _, cf6, Nat.le_of_ble_eq_true rfl, rfl, rfl, tbk_2 168 rfl rfl⟩
set_option maxRecDepth 20000 in
theorem fl_X11_285 : FLk RX11 285 6 3 false := ⟨_, _, cf6, Nat.le_of_ble_eq_true rfl, rfl, rfl, tbk_2 172 rfl rfl⟩
set_option maxRecDepth 20000 in
theorem fl_X11_286 : FLk RX11 286 6 0 false := ⟨_, _, cf6, Nat.le_of_ble_eq_true rfl, rfl, rfl, tbk_2 166 rfl rfl⟩
set_option maxRecDepth 20000 in
theorem fl_X11_287 : FLk RX11 287 6 2 true := ⟨_, _, cf6, Nat.le_of_ble_eq_true rfl, rfl, rfl, tbk_2 170 rfl rfl⟩
set_option maxRecDepth 20000 in
theorem fl_X11_290 : FLk RX11 290 6 5 false := ⟨_, _, cf6, Nat.le_of_ble_eq_true rfl, rfl, rfl, tbk_2 176 rfl rfl⟩
set_option maxRecDepth 20000 in
theorem fl_X11_293 : FLk RX11 293 6 6 false := ⟨_, _, cf6, Nat.le_of_ble_eq_true rfl, rfl, rfl, tbk_2 178 rfl rfl⟩
set_option maxRecDepth 20000 in
theorem fl_X11_296 : FLk RX11 296 6 4 false := ⟨_, _, cf6, Nat.le_of_ble_eq_true rfl, rfl, rfl, tbk_2 174 rfl rfl⟩
set_option maxRecDepth 20000 in
theorem fl_X11_309 : FLk RX11 309 4 1 true := ⟨_, _, cf4, Nat.le_of_ble_eq_true rfl, rfl, rfl, tbk_2 212 rfl rfl⟩
set_option maxRecDepth 20000 in
theorem fl_X11_313 : FLk RX11 313 4 3 false := ⟨_, _, cf4, Nat.le_of_ble_eq_true rfl, rfl, rfl, tbk_2 216 rfl rfl⟩
set_option maxRecDepth 20000 in
theorem fl_X11_316 : FLk RX11 316 4 0 false := ⟨_, _, cf4, Nat.le_of_ble_eq_true rfl, rfl, rfl, tbk_2 210 rfl rfl⟩
set_option maxRecDepth 20000 in
theorem fl_X11_317 : FLk RX11 317 4 2 true := ⟨_, _, cf4, Nat.le_of_ble_eq_true rfl, rfl, rfl, tbk_2 214 rfl rfl⟩
set_option maxRecDepth 20000 in
theorem fl_X11_318 : FLk RX11 318 1 0 false := ⟨_, _, cf1, Nat.le_of_ble_eq_true rfl, rfl, rfl, tbk_1 159 rfl rfl⟩
set_option maxRecDepth 20000 in
theorem fl_X11_326 : FLk RX11 326 1 4 true := ⟨_, _, cf1, Nat.le_of_ble_eq_true rfl, rfl, rfl, tbk_1 168 rfl rfl⟩
set_option maxRecDepth 20000 in
theorem fl_X11_339 : FLk RX11 339 1 3 true := ⟨_, _, cf1, Nat.le_of_ble_eq_true rfl, rfl, rfl, tbk_1 166 rfl rfl⟩
set_option maxRecDepth 20000 in
theorem fl_X11_348 : FLk RX11 348 1 6 true := ⟨_, _, cf1, Nat.le_of_ble_eq_true rfl, rfl, rfl, tbk_1 171 rfl rfl⟩
set_option maxRecDepth 20000 in
theorem fl_X11_351 : FLk RX11 351 1 7 false := ⟨_, _, cf1, Nat.le_of_ble_eq_true rfl, rfl, rfl, tbk_1 173 rfl rfl⟩
set_option maxRecDepth 20000 in
theorem fl_X11_363 : FLk RX11 363 1 12 false := ⟨_, _, cf1, Nat.le_of_ble_eq_true rfl, rfl, rfl, tbk_1 179 rfl rfl⟩
set_option maxRecDepth 20000 in
theorem fl_X11_382 : FLk RX11 382 10 0 false := ⟨_, _, cf10, Nat.le_of_ble_eq_true rfl, rfl, rfl, tbk_3 6 rfl rfl⟩
set_option maxRecDepth 20000 in
theorem fl_X11_387 : FLk RX11 387 9 0 false := ⟨_, _, cf9, Nat.le_of_ble_eq_true rfl, rfl, rfl, tbk_3 51 rfl rfl⟩
set_option maxRecDepth 20000 in
theorem fl_X11_388 : FLk RX11 388 9 1 true := ⟨_, _, cf9, Nat.le_of_ble_eq_true rfl, rfl, rfl, tbk_3 53 rfl rfl⟩
set_option maxRecDepth 20000 in
theorem fl_X11_397 : FLk RX11 397 0 3 false := ⟨_, _, cf0, Nat.le_of_ble_eq_true rfl, rfl, rfl, tbk_1 111 rfl rfl⟩
set_option maxRecDepth 20000 in
theorem fl_X11_400 : FLk RX11 400 0 4 false := ⟨_, _, cf0, Nat.le_of_ble_eq_true rfl, rfl, rfl, tbk_1 113 rfl rfl⟩
set_option maxRecDepth 20000 in
theorem fl_X0_9 : FLk RX0 9 0 0 true := ⟨_, _, cf0, Nat.le_of_ble_eq_true rfl, rfl, rfl, tbk_1 103 rfl rfl⟩
set_option maxRecDepth 20000 in
theorem fl_X0_15 : FLk RX0 15 0 1 true := ⟨_, _, cf0, Nat.le_of_ble_eq_true rfl, rfl, rfl, tbk_1 104 rfl rfl⟩
set_option maxRecDepth 20000 in
theorem fl_X0_26 : FLk RX0 26 0 2 true := ⟨_, _, cf0, Nat.le_of_ble_eq_true rfl, rfl, rfl, tbk_1 105 rfl rfl⟩
set_option maxRecDepth 20000 in
theorem fl_X0_29 : FLk RX0 29 0 3 false := ⟨_, _, cf0, Nat.le_of_ble_eq_true rfl, rfl, rfl, tbk_1 109 rfl rfl⟩
set_option maxRecDepth 20000 in
theorem fl_X0_33 : FLk RX0 33 0 4 false := ⟨_, _, cf0, Nat.le_of_ble_eq_true rfl, rfl, rfl, tbk_1 112 rfl rfl⟩
set_option maxRecDepth 20000 in
theorem fl_X0_46 : FLk RX0 46 0 5 false := ⟨_, _, cf0, Nat.le_of_ble_eq_true rfl, rfl, rfl, tbk_1 115 rfl rfl⟩
set_option maxRecDepth 20000 in
theorem fl_X0_49 : FLk RX0 49 0 6 false := ⟨_, _, cf0, Nat.le_of_ble_eq_true rfl, rfl, rfl, tbk_1 116 rfl rfl⟩
set_option maxRecDepth 20000 in
theorem fl_X0_58 : FLk RX0 58 7 4 false := ⟨_, _, cf7, Nat.le_of_ble_eq_true rfl, rfl, rfl, tbk_1 46 rfl rfl⟩
set_option maxRecDepth 20000 in
theorem fl_X0_65 : FLk RX0 65 7 7 false := ⟨_, _, cf7, Nat.le_of_ble_eq_true rfl, rfl, rfl, tbk_1 55 rfl rfl⟩
set_option maxRecDepth 20000 in
theorem fl_X0_89 : FLk RX0 89 7 6 false := ⟨_, _, cf7, Nat.le_of_ble_eq_true rfl, rfl, rfl, tbk_1 51 rfl rfl⟩
set_option maxRecDepth 20000 in
theorem fl_X1_9 : FLk RX1 9 1 1 true := ⟨_, _, cf1, Nat.le_of_ble_eq_true rfl, rfl, rfl, tbk_1 160 rfl rfl⟩
set_option maxRecDepth 20000 in
theorem fl_X1_15 : FLk RX1 15 1 2 true := ⟨_, _, cf1, Nat.le_of_ble_eq_true rfl, rfl, rfl, tbk_1 164 rfl rfl⟩
set_option maxRecDepth 20000 in
theorem fl_X1_18 : FLk RX1 18 1 3 true := ⟨_, _, cf1, Nat.le_of_ble_eq_true rfl, rfl, rfl, tbk_1 165 rfl rfl⟩
set_option maxRecDepth 20000 in
theorem fl_X1_21 : FLk RX1 21 1 4 true := ⟨_, _, cf1, Nat.le_of_ble_eq_true rfl, rfl, rfl, tbk_1 167 rfl rfl⟩
set_option maxRecDepth 20000 in
theorem fl_X1_24 : FLk RX1 24 1 5 true := ⟨_, _, cf1, Nat.le_of_ble_eq_true rfl, rfl, rfl, tbk_1 169 rfl rfl⟩
set_option maxRecDepth 20000 in
theorem fl_X1_27 : FLk RX1 27 1 6 true := ⟨_, _, cf1, Nat.le_of_ble_eq_true rfl, rfl, rfl, tbk_1 170 rfl rfl⟩
set_option maxRecDepth 20000 in
theorem fl_X1_30 : FLk RX1 30 1 8 true := ⟨_, _, cf1, Nat.le_of_ble_eq_true rfl, rfl, rfl, tbk_1 174 rfl rfl⟩
set_option maxRecDepth 20000 in
theorem fl_X1_33 : FLk RX1 33 1 9 true := ⟨_, _, cf1, Nat.le_of_ble_eq_true rfl, rfl, rfl, tbk_1 175 rfl rfl⟩
set_option maxRecDepth 20000 in
theorem fl_X1_36 : FLk RX1 36 1 10 true := ⟨_, _, cf1, Nat.le_of_ble_eq_true rfl, rfl, rfl, tbk_1 176 rfl rfl⟩
set_option maxRecDepth 20000 in
theorem fl_X1_39 : FLk RX1 39 1 11 true := ⟨_, _, cf1, Nat.le_of_ble_eq_true rfl, rfl, rfl, tbk_1 177 rfl rfl⟩
set_option maxRecDepth 20000 in
theorem fl_X1_42 : FLk RX1 42 1 13 true := ⟨_, _, cf1, Nat.le_of_ble_eq_true rfl, rfl, rfl, tbk_1 180 rfl rfl⟩
set_option maxRecDepth 20000 in
theorem fl_X1_45 : FLk RX1 45 1 0 false := ⟨_, _, cf1, Nat.le_of_ble_eq_true rfl, rfl, rfl, tbk_1 158 rfl rfl⟩
set_option maxRecDepth 20000 in
theorem fl_X1_49 : FLk RX1 49 1 7 false := ⟨_, _, cf1, Nat.le_of_ble_eq_true rfl, rfl, rfl, tbk_1 172 rfl rfl⟩
set_option maxRecDepth 20000 in
theorem fl_X1_72 : FLk RX1 72 8 4 true := ⟨_, _, cf8, Nat.le_of_ble_eq_true rfl, rfl, rfl, tbk_2 60 rfl rfl⟩
set_option maxRecDepth 20000 in
theorem fl_X1_92 : FLk RX1 92 0 2 true := ⟨_, _, cf0, Nat.le_of_ble_eq_true rfl, rfl, rfl, tbk_1 107 rfl rfl⟩
set_option maxRecDepth 20000 in
theorem fl_X1_108 : FLk RX1 108 1 12 false := ⟨_, _, cf1, Nat.le_of_ble_eq_true rfl, rfl, rfl, tbk_1 178 rfl rfl⟩
set_option maxRecDepth 20000 in
theorem fl_X1_120 : FLk RX1 120 8 5 true := ⟨_, _, cf8, Nat.le_of_ble_eq_true rfl, rfl, rfl, tbk_2 63 rfl rfl⟩
set_option maxRecDepth 20000 in
theorem fl_X2_11 : FLk RX2 11 2 1 true := ⟨_, _, cf2, Nat.le_of_ble_eq_true rfl, rfl, rfl, tbk_2 101 rfl rfl⟩
set_option maxRecDepth 20000 in
theorem fl_X2_15 : FLk RX2 15 2 7 true := ⟨_, _, cf2, Nat.le_of_ble_eq_true rfl, rfl, rfl, tbk_2 111 rfl rfl⟩
set_option maxRecDepth 20000 in
theorem fl_X2_18 : FLk RX2 18 2 8 true := ⟨_, _, cf2, Nat.le_of_ble_eq_true rfl, rfl, rfl, tbk_2 112 rfl rfl⟩
set_option maxRecDepth 20000 in
theorem fl_X2_21 : FLk RX2 21 2 9 true := ⟨_, _, cf2, Nat.le_of_ble_eq_true rfl, rfl, rfl, tbk_2 113 rfl rfl⟩
set_option maxRecDepth 20000 in
theorem fl_X2_24 : FLk RX2 24 2 10 true := ⟨_, _, cf2, Nat.le_of_ble_eq_true rfl, rfl, rfl, tbk_2 114 rfl rfl⟩
set_option maxRecDepth 20000 in
theorem fl_X2_27 : FLk RX2 27 2 11 true := ⟨_, _, cf2, Nat.le_of_ble_eq_true rfl, rfl, rfl, tbk_2 115 rfl rfl⟩
set_option maxRecDepth 20000 in
theorem fl_X2_30 : FLk RX2 30 2 12 true := ⟨_, _, cf2, Nat.le_of_ble_eq_true rfl, rfl, rfl, tbk_2 116 rfl rfl⟩
set_option maxRecDepth 20000 in
theorem fl_X2_33 : FLk RX2 33 2 13 true := ⟨_, _, cf2, Nat.le_of_ble_eq_true rfl, rfl, rfl, tbk_2 117 rfl rfl⟩
set_option maxRecDepth 20000 in
theorem fl_X2_36 : FLk RX2 36 2 14 true := ⟨_, _, cf2, Nat.le_of_ble_eq_true rfl, rfl, rfl, tbk_2 118 rfl rfl⟩
set_option maxRecDepth 20000 in
theorem fl_X2_39 : FLk RX2 39 2 15 true := ⟨_, _, cf2, Nat.le_of_ble_eq_true rfl, rfl, rfl, tbk_2 119 rfl rfl⟩
set_option maxRecDepth 20000 in
theorem fl_X2_42 : FLk RX2 42 2 16 true := ⟨_, _, cf2, Nat.le_of_ble_eq_true rfl, rfl, rfl, tbk_2 120 rfl rfl⟩
set_option maxRecDepth 20000 in
theorem fl_X2_45 : FLk RX2 45 2 17 true := ⟨_, _, cf2, Nat.le_of_ble_eq_true rfl, rfl, rfl, tbk_2 121 rfl rfl⟩
set_option maxRecDepth 20000 in
theorem fl_X2_48 : FLk RX2 48 2 0 false := ⟨_, _, cf2, Nat.le_of_ble_eq_true rfl, rfl, rfl, tbk_2 99 rfl rfl⟩
set_option maxRecDepth 20000 in
theorem fl_X2_52 : FLk RX2 52 2 5 false := ⟨_, _, cf2, Nat.le_of_ble_eq_true rfl, rfl, rfl, tbk_2 109 rfl rfl⟩
set_option maxRecDepth 20000 in
theorem fl_X2_59 : FLk RX2 59 2 6 false := ⟨_, _, cf2, Nat.le_of_ble_eq_true rfl, rfl, rfl, tbk_2 110 rfl rfl⟩
set_option maxRecDepth 20000 in
theorem fl_X2_62 : FLk RX2 62 2 2 false := ⟨_, _, cf2, Nat.le_of_ble_eq_true rfl, rfl, rfl, tbk_2 103 rfl rfl⟩
set_option maxRecDepth 20000 in
theorem fl_X2_65 : FLk RX2 65 2 3 false := ⟨_, _, cf2, Nat.le_of_ble_eq_true rfl, rfl, rfl, tbk_2 105 rfl rfl⟩
set_option maxRecDepth 20000 in
theorem fl_X2_68 : FLk RX2 68 2 4 false := ⟨_, _, cf2, Nat.le_of_ble_eq_true rfl, rfl, rfl, tbk_2 107 rfl rfl⟩
set_option maxRecDepth 20000 in
theorem fl_X3_11 : FLk RX3 11 3 0 true := ⟨_, _, cf3, Nat.le_of_ble_eq_true rfl, rfl, rfl, tbk_1 139 rfl rfl⟩
set_option maxRecDepth 20000 in
theorem fl_X3_21 : FLk RX3 21 3 1 false := ⟨_, _, cf3, Nat.le_of_ble_eq_true rfl, rfl, rfl, tbk_1 141 rfl rfl⟩
set_option maxRecDepth 20000 in
theorem fl_X3_25 : FLk RX3 25 3 2 false := ⟨_, _, cf3, Nat.le_of_ble_eq_true rfl, rfl, rfl, tbk_1 143 rfl rfl⟩
set_option maxRecDepth 20000 in
theorem fl_X3_38 : FLk RX3 38 7 4 false := ⟨_, _, cf7, Nat.le_of_ble_eq_true rfl, rfl, rfl, tbk_1 44 rfl rfl⟩
set_option maxRecDepth 20000 in
theorem fl_X3_48 : FLk RX3 48 7 7 false := ⟨_, _, cf7, Nat.le_of_ble_eq_true rfl, rfl, rfl, tbk_1 54 rfl rfl⟩
set_option maxRecDepth 20000 in
theorem fl_X3_75 : FLk RX3 75 7 6 false := ⟨_, _, cf7, Nat.le_of_ble_eq_true rfl, rfl, rfl, tbk_1 49 rfl rfl⟩
set_option maxRecDepth 20000 in
theorem fl_X3_88 : FLk RX3 88 5 4 true := ⟨_, _, cf5, Nat.le_of_ble_eq_true rfl, rfl, rfl, tbk_1 223 rfl rfl⟩
set_option maxRecDepth 20000 in
theorem fl_X3_96 : FLk RX3 96 5 2 true := ⟨_, _, cf5, Nat.le_of_ble_eq_true rfl, rfl, rfl, tbk_1 217 rfl rfl⟩
set_option maxRecDepth 20000 in
theorem fl_X3_100 : FLk RX3 100 1 1 true := ⟨_, _, cf1, Nat.le_of_ble_eq_true rfl, rfl, rfl, tbk_1 163 rfl rfl⟩
set_option maxRecDepth 20000 in
theorem fl_X4_9 : FLk RX4 9 4 1 true := ⟨_, _, cf4, Nat.le_of_ble_eq_true rfl, rfl, rfl, tbk_2 211 rfl rfl⟩
set_option maxRecDepth 20000 in
theorem fl_X4_13 : FLk RX4 13 4 2 true := ⟨_, _, cf4, Nat.le_of_ble_eq_true rfl, rfl, rfl, tbk_2 213 rfl rfl⟩
set_option maxRecDepth 20000 in
theorem fl_X4_16 : FLk RX4 16 4 6 true := ⟨_, _, cf4, Nat.le_of_ble_eq_true rfl, rfl, rfl, tbk_2 219 rfl rfl⟩
set_option maxRecDepth 20000 in
theorem fl_X4_19 : FLk RX4 19 4 7 true := ⟨_, _, cf4, Nat.le_of_ble_eq_true rfl, rfl, rfl, tbk_2 220 rfl rfl⟩
set_option maxRecDepth 20000 in
theorem fl_X4_22 : FLk RX4 22 4 0 false := ⟨_, _, cf4, Nat.le_of_ble_eq_true rfl, rfl, rfl, tbk_2 209 rfl rfl⟩
set_option maxRecDepth 20000 in
theorem fl_X4_26 : FLk RX4 26 4 4 false := ⟨_, _, cf4, Nat.le_of_ble_eq_true rfl, rfl, rfl, tbk_2 217 rfl rfl⟩
set_option maxRecDepth 20000 in
theorem fl_X4_35 : FLk RX4 35 4 5 false := ⟨_, _, cf4, Nat.le_of_ble_eq_true rfl, rfl, rfl, tbk_2 218 rfl rfl⟩
set_option maxRecDepth 20000 in
theorem fl_X4_38 : FLk RX4 38 4 3 false := ⟨_, _, cf4, Nat.le_of_ble_eq_true rfl, rfl, rfl, tbk_2 215 rfl rfl⟩
set_option maxRecDepth 20000 in
theorem fl_X5_12 : FLk RX5 12 5 0 true := ⟨_, _, cf5, Nat.le_of_ble_eq_true rfl, rfl, rfl, tbk_1 210 rfl rfl⟩
set_option maxRecDepth 20000 in
theorem fl_X5_21 : FLk RX5 21 5 1 true := ⟨_, _, cf5, Nat.le_of_ble_eq_true rfl, rfl, rfl, tbk_1 213 rfl rfl⟩
set_option maxRecDepth 20000 in
theorem fl_X5_28 : FLk RX5 28 5 2 true := ⟨_, _, cf5, Nat.le_of_ble_eq_true rfl, rfl, rfl, tbk_1 215 rfl rfl⟩
set_option maxRecDepth 20000 in
theorem fl_X5_32 : FLk RX5 32 5 4 true := ⟨_, _, cf5, Nat.le_of_ble_eq_true rfl, rfl, rfl, tbk_1 221 rfl rfl⟩
set_option maxRecDepth 20000 in
theorem fl_X5_36 : FLk RX5 36 5 6 true := ⟨_, _, cf5, Nat.le_of_ble_eq_true rfl, rfl, rfl, tbk_1 227 rfl rfl⟩
set_option maxRecDepth 20000 in
theorem fl_X5_39 : FLk RX5 39 5 7 true := ⟨_, _, cf5, Nat.le_of_ble_eq_true rfl, rfl, rfl, tbk_1 229 rfl rfl⟩
set_option maxRecDepth 20000 in
theorem fl_X5_42 : FLk RX5 42 5 8 true := ⟨_, _, cf5, Nat.le_of_ble_eq_true rfl, rfl, rfl, tbk_1 231 rfl rfl⟩
set_option maxRecDepth 20000 in
theorem fl_X5_45 : FLk RX5 45 5 9 true := ⟨_, _, cf5, Nat.le_of_ble_eq_true rfl, rfl, rfl, tbk_1 233 rfl rfl⟩
set_option maxRecDepth 20000 in
theorem fl_X5_48 : FLk RX5 48 5 11 true := ⟨_, _, cf5, Nat.le_of_ble_eq_true rfl, rfl, rfl, tbk_1 237 rfl rfl⟩
set_option maxRecDepth 20000 in
theorem fl_X5_51 : FLk RX5 51 5 12 true := ⟨_, _, cf5, Nat.le_of_ble_eq_true rfl, rfl, rfl, tbk_1 239 rfl rfl⟩
set_option maxRecDepth 20000 in
theorem fl_X5_54 : FLk RX5 54 5 13 true := ⟨_, _, cf5, Nat.le_of_ble_eq_true rfl, rfl, rfl, tbk_2 0 rfl rfl⟩
set_option maxRecDepth 20000 in
theorem fl_X5_57 : FLk RX5 57 5 14 true := ⟨_, _, cf5, Nat.le_of_ble_eq_true rfl, rfl, rfl, tbk_2 1 rfl rfl⟩
set_option maxRecDepth 20000 in
theorem fl_X5_60 : FLk RX5 60 5 15 true := ⟨_, _, cf5, Nat.le_of_ble_eq_true rfl, rfl, rfl, tbk_2 3 rfl rfl⟩
set_option maxRecDepth 20000 in
theorem fl_X5_63 : FLk RX5 63 5 16 true := ⟨_, _, cf5, Nat.le_of_ble_eq_true rfl, rfl, rfl, tbk_2 4 rfl rfl⟩
set_option maxRecDepth 20000 in
theorem fl_X5_70 : FLk RX5 70 3 1 false := ⟨_, _, cf3, Nat.le_of_ble_eq_true rfl, rfl, rfl, tbk_1 140 rfl rfl⟩
set_option maxRecDepth 20000 in
theorem fl_X5_74 : FLk RX5 74 3 2 false := ⟨_, _, cf3, Nat.le_of_ble_eq_true rfl, rfl, rfl, tbk_1 142 rfl rfl⟩
set_option maxRecDepth 20000 in
theorem fl_X5_80 : FLk RX5 80 5 3 false := ⟨_, _, cf5, Nat.le_of_ble_eq_true rfl, rfl, rfl, tbk_1 218 rfl rfl⟩
set_option maxRecDepth 20000 in
theorem fl_X5_83 : FLk RX5 83 5 5 false := ⟨_, _, cf5, Nat.le_of_ble_eq_true rfl, rfl, rfl, tbk_1 224 rfl rfl⟩
set_option maxRecDepth 20000 in
theorem fl_X5_86 : FLk RX5 86 5 10 false := ⟨_, _, cf5, Nat.le_of_ble_eq_true rfl, rfl, rfl, tbk_1 235 rfl rfl⟩
set_option maxRecDepth 20000 in
theorem fl_X5_101 : FLk RX5 101 1 1 true := ⟨_, _, cf1, Nat.le_of_ble_eq_true rfl, rfl, rfl, tbk_1 161 rfl rfl⟩
set_option maxRecDepth 20000 in
theorem fl_X5_104 : FLk RX5 104 0 2 true := ⟨_, _, cf0, Nat.le_of_ble_eq_true rfl, rfl, rfl, tbk_1 106 rfl rfl⟩
set_option maxRecDepth 20000 in
theorem fl_X6_9 : FLk RX6 9 6 1 true := ⟨_, _, cf6, Nat.le_of_ble_eq_true rfl, rfl, rfl, tbk_2 167 rfl rfl⟩
set_option maxRecDepth 20000 in
theorem fl_X6_13 : FLk RX6 13 6 2 true := ⟨_, _, cf6, Nat.le_of_ble_eq_true rfl, rfl, rfl, tbk_2 169 rfl rfl⟩
set_option maxRecDepth 20000 in
theorem fl_X6_16 : FLk RX6 16 6 8 true := ⟨_, _, cf6, Nat.le_of_ble_eq_true rfl, rfl, rfl, tbk_2 180 rfl rfl⟩
set_option maxRecDepth 20000 in
theorem fl_X6_19 : FLk RX6 19 6 9 true := ⟨_, _, cf6, Nat.le_of_ble_eq_true rfl, rfl, rfl, tbk_2 181 rfl rfl⟩
set_option maxRecDepth 20000 in
theorem fl_X6_22 : FLk RX6 22 6 0 false := ⟨_, _, cf6, Nat.le_of_ble_eq_true rfl, rfl, rfl, tbk_2 165 rfl rfl⟩
set_option maxRecDepth 20000 in
theorem fl_X6_26 : FLk RX6 26 6 7 false := ⟨_, _, cf6, Nat.le_of_ble_eq_true rfl, rfl, rfl, tbk_2 179 rfl rfl⟩
set_option maxRecDepth 20000 in
theorem fl_X6_29 : FLk RX6 29 6 6 false := ⟨_, _, cf6, Nat.le_of_ble_eq_true rfl, rfl, rfl, tbk_2 177 rfl rfl⟩
set_option maxRecDepth 20000 in
theorem fl_X6_48 : FLk RX6 48 6 5 false := ⟨_, _, cf6, Nat.le_of_ble_eq_true rfl, rfl, rfl, tbk_2 175 rfl rfl⟩
set_option maxRecDepth 20000 in
theorem fl_X6_51 : FLk RX6 51 6 3 false := ⟨_, _, cf6, Nat.le_of_ble_eq_true rfl, rfl, rfl, tbk_2 171 rfl rfl⟩
set_option maxRecDepth 20000 in
theorem fl_X6_54 : FLk RX6 54 6 4 false := ⟨_, _, cf6, Nat.le_of_ble_eq_true rfl, rfl, rfl, tbk_2 173 rfl rfl⟩
set_option maxRecDepth 20000 in
theorem fl_X7_11 : FLk RX7 11 7 0 true := ⟨_, _, cf7, Nat.le_of_ble_eq_true rfl, rfl, rfl, tbk_1 38 rfl rfl⟩
set_option maxRecDepth 20000 in
theorem fl_X7_15 : FLk RX7 15 7 7 false := ⟨_, _, cf7, Nat.le_of_ble_eq_true rfl, rfl, rfl, tbk_1 52 rfl rfl⟩
set_option maxRecDepth 20000 in
theorem fl_X7_19 : FLk RX7 19 7 1 false := ⟨_, _, cf7, Nat.le_of_ble_eq_true rfl, rfl, rfl, tbk_1 40 rfl rfl⟩
set_option maxRecDepth 20000 in
theorem fl_X7_22 : FLk RX7 22 7 2 false := ⟨_, _, cf7, Nat.le_of_ble_eq_true rfl, rfl, rfl, tbk_1 41 rfl rfl⟩
set_option maxRecDepth 20000 in
theorem fl_X7_25 : FLk RX7 25 7 3 false := ⟨_, _, cf7, Nat.le_of_ble_eq_true rfl, rfl, rfl, tbk_1 42 rfl rfl⟩
set_option maxRecDepth 20000 in
theorem fl_X7_28 : FLk RX7 28 7 8 false := ⟨_, _, cf7, Nat.le_of_ble_eq_true rfl, rfl, rfl, tbk_1 56 rfl rfl⟩
set_option maxRecDepth 20000 in
theorem fl_X7_31 : FLk RX7 31 7 9 false := ⟨_, _, cf7, Nat.le_of_ble_eq_true rfl, rfl, rfl, tbk_1 58 rfl rfl⟩
set_option maxRecDepth 20000 in
theorem fl_X7_37 : FLk RX7 37 7 5 false := ⟨_, _, cf7, Nat.le_of_ble_eq_true rfl, rfl, rfl, tbk_1 47 rfl rfl⟩
set_option maxRecDepth 20000 in
theorem fl_X7_40 : FLk RX7 40 7 4 false := ⟨_, _, cf7, Nat.le_of_ble_eq_true rfl, rfl, rfl, tbk_1 45 rfl rfl⟩
set_option maxRecDepth 20000 in
theorem fl_X7_47 : FLk RX7 47 7 6 false := ⟨_, _, cf7, Nat.le_of_ble_eq_true rfl, rfl, rfl, tbk_1 50 rfl rfl⟩
set_option maxRecDepth 20000 in
theorem fl_X8_9 : FLk RX8 9 8 0 false := ⟨_, _, cf8, Nat.le_of_ble_eq_true rfl, rfl, rfl, tbk_2 51 rfl rfl⟩
set_option maxRecDepth 20000 in
theorem fl_X8_15 : FLk RX8 15 8 1 true := ⟨_, _, cf8, Nat.le_of_ble_eq_true rfl, rfl, rfl, tbk_2 53 rfl rfl⟩
set_option maxRecDepth 20000 in
theorem fl_X8_19 : FLk RX8 19 8 2 true := ⟨_, _, cf8, Nat.le_of_ble_eq_true rfl, rfl, rfl, tbk_2 55 rfl rfl⟩
set_option maxRecDepth 20000 in
theorem fl_X8_23 : FLk RX8 23 8 3 true := ⟨_, _, cf8, Nat.le_of_ble_eq_true rfl, rfl, rfl, tbk_2 57 rfl rfl⟩
set_option maxRecDepth 20000 in
theorem fl_X8_26 : FLk RX8 26 8 4 true := ⟨_, _, cf8, Nat.le_of_ble_eq_true rfl, rfl, rfl, tbk_2 59 rfl rfl⟩
set_option maxRecDepth 20000 in
theorem fl_X8_29 : FLk RX8 29 8 5 true := ⟨_, _, cf8, Nat.le_of_ble_eq_true rfl, rfl, rfl, tbk_2 62 rfl rfl⟩
set_option maxRecDepth 20000 in
theorem fl_X8_32 : FLk RX8 32 8 6 true := ⟨_, _, cf8, Nat.le_of_ble_eq_true rfl, rfl, rfl, tbk_2 64 rfl rfl⟩
set_option maxRecDepth 20000 in
theorem fl_X8_35 : FLk RX8 35 8 7 true := ⟨_, _, cf8, Nat.le_of_ble_eq_true rfl, rfl, rfl, tbk_2 65 rfl rfl⟩
set_option maxRecDepth 20000 in
theorem fl_X8_38 : FLk RX8 38 8 8 true := ⟨_, _, cf8, Nat.le_of_ble_eq_true rfl, rfl, rfl, tbk_2 66 rfl rfl⟩
set_option maxRecDepth 20000 in
theorem fl_X8_41 : FLk RX8 41 8 9 true := ⟨_, _, cf8, Nat.le_of_ble_eq_true rfl, rfl, rfl, tbk_2 67 rfl rfl⟩
set_option maxRecDepth 20000 in
theorem fl_X8_44 : FLk RX8 44 8 10 true := ⟨_, _, cf8, Nat.le_of_ble_eq_true rfl, rfl, rfl, tbk_2 68 rfl rfl⟩
set_option maxRecDepth 20000 in
theorem fl_X8_59 : FLk RX8 59 5 0 true := ⟨_, _, cf5, Nat.le_of_ble_eq_true rfl, rfl, rfl, tbk_1 212 rfl rfl⟩
set_option maxRecDepth 20000 in
theorem fl_X8_65 : FLk RX8 65 0 3 false := ⟨_, _, cf0, Nat.le_of_ble_eq_true rfl, rfl, rfl, tbk_1 110 rfl rfl⟩
set_option maxRecDepth 20000 in
theorem fl_X8_82 : FLk RX8 82 5 8 true := ⟨_, _, cf5, Nat.le_of_ble_eq_true rfl, rfl, rfl, tbk_1 232 rfl rfl⟩
set_option maxRecDepth 20000 in
theorem fl_X8_85 : FLk RX8 85 5 3 false := ⟨_, _, cf5, Nat.le_of_ble_eq_true rfl, rfl, rfl, tbk_1 219 rfl rfl⟩
set_option maxRecDepth 20000 in
theorem fl_X8_92 : FLk RX8 92 5 9 true := ⟨_, _, cf5, Nat.le_of_ble_eq_true rfl, rfl, rfl, tbk_1 234 rfl rfl⟩
set_option maxRecDepth 20000 in
theorem fl_X8_95 : FLk RX8 95 5 5 false := ⟨_, _, cf5, Nat.le_of_ble_eq_true rfl, rfl, rfl, tbk_1 225 rfl rfl⟩
set_option maxRecDepth 20000 in
theorem fl_X8_98 : FLk RX8 98 5 6 true := ⟨_, _, cf5, Nat.le_of_ble_eq_true rfl, rfl, rfl, tbk_1 228 rfl rfl⟩
set_option maxRecDepth 20000 in
theorem fl_X8_101 : FLk RX8 101 5 7 true := ⟨_, _, cf5, Nat.le_of_ble_eq_true rfl, rfl, rfl, tbk_1 230 rfl rfl⟩
set_option maxRecDepth 20000 in
theorem fl_X9_11 : FLk RX9 11 9 1 true := ⟨_, _, cf9, Nat.le_of_ble_eq_true rfl, rfl, rfl, tbk_3 52 rfl rfl⟩
set_option maxRecDepth 20000 in
theorem fl_X9_17 : FLk RX9 17 9 2 true := ⟨_, _, cf9, Nat.le_of_ble_eq_true rfl, rfl, rfl, tbk_3 54 rfl rfl⟩
set_option maxRecDepth 20000 in
theorem fl_X9_20 : FLk RX9 20 9 3 true := ⟨_, _, cf9, Nat.le_of_ble_eq_true rfl, rfl, rfl, tbk_3 55 rfl rfl⟩
set_option maxRecDepth 20000 in
theorem fl_X9_23 : FLk RX9 23 9 4 true := ⟨_, _, cf9, Nat.le_of_ble_eq_true rfl, rfl, rfl, tbk_3 56 rfl rfl⟩
set_option maxRecDepth 20000 in
theorem fl_X9_26 : FLk RX9 26 9 5 true := ⟨_, _, cf9, Nat.le_of_ble_eq_true rfl, rfl, rfl, tbk_3 57 rfl rfl⟩
set_option maxRecDepth 20000 in
theorem fl_X9_36 : FLk RX9 36 10 0 false := ⟨_, _, cf10, Nat.le_of_ble_eq_true rfl, rfl, rfl, tbk_3 5 rfl rfl⟩
set_option maxRecDepth 20000 in
theorem fl_X9_40 : FLk RX9 40 9 0 false := ⟨_, _, cf9, Nat.le_of_ble_eq_true rfl, rfl, rfl, tbk_3 50 rfl rfl⟩
set_option maxRecDepth 20000 in
theorem fl_X9_59 : FLk RX9 59 10 3 true := ⟨_, _, cf10, Nat.le_of_ble_eq_true rfl, rfl, rfl, tbk_3 12 rfl rfl⟩
set_option maxRecDepth 20000 in
theorem fl_X9_72 : FLk RX9 72 10 1 true := ⟨_, _, cf10, Nat.le_of_ble_eq_true rfl, rfl, rfl, tbk_3 8 rfl rfl⟩
set_option maxRecDepth 20000 in
theorem fl_X9_75 : FLk RX9 75 10 2 true := ⟨_, _, cf10, Nat.le_of_ble_eq_true rfl, rfl, rfl, tbk_3 10 rfl rfl⟩
set_option maxRecDepth 20000 in
theorem fl_X9_86 : FLk RX9 86 10 4 false := ⟨_, _, cf10, Nat.le_of_ble_eq_true rfl, rfl, rfl, tbk_3 14 rfl rfl⟩
set_option maxRecDepth 20000 in
theorem fl_X9_89 : FLk RX9 89 10 5 true := ⟨_, _, cf10, Nat.le_of_ble_eq_true rfl, rfl, rfl, tbk_3 16 rfl rfl⟩
set_option maxRecDepth 20000 in
theorem fl_X9_92 : FLk RX9 92 10 6 true := ⟨_, _, cf10, Nat.le_of_ble_eq_true rfl, rfl, rfl, tbk_3 18 rfl rfl⟩
set_option maxRecDepth 20000 in
theorem fl_X9_95 : FLk RX9 95 10 7 true := ⟨_, _, cf10, Nat.le_of_ble_eq_true rfl, rfl, rfl, tbk_3 20 rfl rfl⟩
set_option maxRecDepth 20000 in
theorem fl_X10_11 : FLk RX10 11 10 1 true := ⟨_, _, cf10, Nat.le_of_ble_eq_true rfl, rfl, rfl, tbk_3 7 rfl rfl⟩
set_option maxRecDepth 20000 in
theorem fl_X10_15 : FLk RX10 15 10 2 true := ⟨_, _, cf10, Nat.le_of_ble_eq_true rfl, rfl, rfl, tbk_3 9 rfl rfl⟩
set_option maxRecDepth 20000 in
theorem fl_X10_18 : FLk RX10 18 10 3 true := ⟨_, _, cf10, Nat.le_of_ble_eq_true rfl, rfl, rfl, tbk_3 11 rfl rfl⟩
set_option maxRecDepth 20000 in
theorem fl_X10_21 : FLk RX10 21 10 5 true := ⟨_, _, cf10, Nat.le_of_ble_eq_true rfl, rfl, rfl, tbk_3 15 rfl rfl⟩
set_option maxRecDepth 20000 in
theorem fl_X10_24 : FLk RX10 24 10 6 true := ⟨_, _, cf10, Nat.le_of_ble_eq_true rfl, rfl, rfl, tbk_3 17 rfl rfl⟩
set_option maxRecDepth 20000 in
theorem fl_X10_27 : FLk RX10 27 10 7 true := ⟨_, _, cf10, Nat.le_of_ble_eq_true rfl, rfl, rfl, tbk_3 19 rfl rfl⟩
set_option maxRecDepth 20000 in
theorem fl_X10_30 : FLk RX10 30 10 8 true := ⟨_, _, cf10, Nat.le_of_ble_eq_true rfl, rfl, rfl, tbk_3 21 rfl rfl⟩
set_option maxRecDepth 20000 in
theorem fl_X10_33 : FLk RX10 33 10 0 false := ⟨_, _, cf10, Nat.le_of_ble_eq_true rfl, rfl, rfl, tbk_3 4 rfl rfl⟩
set_option maxRecDepth 20000 in
theorem fl_X10_37 : FLk RX10 37 10 4 false := ⟨_, _, cf10, Nat.le_of_ble_eq_true rfl, rfl, rfl, tbk_3 13 rfl rfl⟩
set_option maxRecDepth 20000 in
theorem fl_X10_46 : FLk RX10 46 7 4 false := ⟨_, _, cf7, Nat.le_of_ble_eq_true rfl, rfl, rfl, tbk_1 43 rfl rfl⟩
set_option maxRecDepth 20000 in
theorem fl_X10_53 : FLk RX10 53 7 7 false := ⟨_, _, cf7, Nat.le_of_ble_eq_true rfl, rfl, rfl, tbk_1 53 rfl rfl⟩
set_option maxRecDepth 20000 in
theorem fl_X10_67 : FLk RX10 67 7 6 false := ⟨_, _, cf7, Nat.le_of_ble_eq_true rfl, rfl, rfl, tbk_1 48 rfl rfl⟩
set_option maxRecDepth 20000 in
theorem fl_X10_90 : FLk RX10 90 10 9 false := ⟨_, _, cf10, Nat.le_of_ble_eq_true rfl, rfl, rfl, tbk_3 22 rfl rfl⟩
set_option maxRecDepth 20000 in
theorem fl_X12_1 : FLk RX12 1 12 0 false := ⟨_, _, cf12, Nat.le_of_ble_eq_true rfl, rfl, rfl, tbk_7 36 rfl rfl⟩
set_option maxRecDepth 20000 in
theorem fl_X12_7 : FLk RX12 7 12 2 false := ⟨_, _, cf12, Nat.le_of_ble_eq_true rfl, rfl, rfl, tbk_7 38 rfl rfl⟩
set_option maxRecDepth 20000 in
theorem fl_X12_14 : FLk RX12 14 12 1 true := ⟨_, _, cf12, Nat.le_of_ble_eq_true rfl, rfl, rfl, tbk_7 37 rfl rfl⟩
set_option maxRecDepth 20000 in
theorem fl_X12_18 : FLk RX12 18 12 3 false := ⟨_, _, cf12, Nat.le_of_ble_eq_true rfl, rfl, rfl, tbk_7 39 rfl rfl⟩
set_option maxRecDepth 20000 in
theorem fl_X12_21 : FLk RX12 21 12 4 false := ⟨_, _, cf12, Nat.le_of_ble_eq_true rfl, rfl, rfl, tbk_7 40 rfl rfl⟩
set_option maxRecDepth 20000 in
theorem fl_X12_24 : FLk RX12 24 12 5 false := ⟨_, _, cf12, Nat.le_of_ble_eq_true rfl, rfl, rfl, tbk_7 41 rfl rfl⟩
set_option maxRecDepth 20000 in
theorem fl_X12_33 : FLk RX12 33 12 6 true := ⟨_, _, cf12, Nat.le_of_ble_eq_true rfl, rfl, rfl, tbk_7 42 rfl rfl⟩
set_option maxRecDepth 20000 in
theorem fl_X12_37 : FLk RX12 37 12 7 true := ⟨_, _, cf12, Nat.le_of_ble_eq_true rfl, rfl, rfl, tbk_7 43 rfl rfl⟩
set_option maxRecDepth 20000 in
theorem fl_X12_40 : FLk RX12 40 12 8 true := ⟨_, _, cf12, Nat.le_of_ble_eq_true rfl, rfl, rfl, tbk_7 44 rfl rfl⟩
set_option maxRecDepth 20000 in
theorem fl_X12_44 : FLk RX12 44 12 9 true := ⟨_, _, cf12, Nat.le_of_ble_eq_true rfl, rfl, rfl, tbk_7 45 rfl rfl⟩
set_option maxRecDepth 20000 in
theorem fl_X12_47 : FLk RX12 47 12 20 true := ⟨_, _, cf12, Nat.le_of_ble_eq_true rfl, rfl, rfl, tbk_7 56 rfl rfl⟩
set_option maxRecDepth 20000 in
theorem fl_X12_51 : FLk RX12 51 12 21 true := ⟨_, _, cf12, Nat.le_of_ble_eq_true rfl, rfl, rfl, tbk_7 57 rfl rfl⟩
set_option maxRecDepth 20000 in
theorem fl_X12_54 : FLk RX12 54 12 22 true := ⟨_, _, cf12, Nat.le_of_ble_eq_true rfl, rfl, rfl, tbk_7 58 rfl rfl⟩
set_option maxRecDepth 20000 in
theorem fl_X12_57 : FLk RX12 57 12 23 true := ⟨_, _, cf12, Nat.le_of_ble_eq_true rfl, rfl, rfl, tbk_7 59 rfl rfl⟩
set_option maxRecDepth 20000 in
theorem fl_X12_60 : FLk RX12 60 12 24 true := ⟨_, _, cf12, Nat.le_of_ble_eq_true rfl, rfl, rfl, tbk_7 60 rfl rfl⟩
set_option maxRecDepth 20000 in
theorem fl_X12_63 : FLk RX12 63 12 25 true := ⟨_, _, cf12, Nat.le_of_ble_eq_true rfl, rfl, rfl, tbk_7 61 rfl rfl⟩
set_option maxRecDepth 20000 in
theorem fl_X12_66 : FLk RX12 66 12 26 true := ⟨_, _, cf12, Nat.le_of_ble_eq_true rfl, rfl, rfl, tbk_7 62 rfl rfl⟩
set_option maxRecDepth 20000 in
theorem fl_X12_69 : FLk RX12 69 12 27 true := ⟨_, _, cf12, Nat.le_of_ble_eq_true rfl, rfl, rfl, tbk_7 63 rfl rfl⟩
set_option maxRecDepth 20000 in
theorem fl_X12_72 : FLk RX12 72 12 30 true := ⟨_, _, cf12, Nat.le_of_ble_eq_true rfl, rfl, rfl, tbk_7 66 rfl rfl⟩
set_option maxRecDepth 20000 in
theorem fl_X12_75 : FLk RX12 75 12 31 true := ⟨_, _, cf12, Nat.le_of_ble_eq_true rfl, rfl, rfl, tbk_7 67 rfl rfl⟩
set_option maxRecDepth 20000 in
theorem fl_X12_78 : FLk RX12 78 12 32 true := ⟨_, _, cf12, Nat.le_of_ble_eq_true rfl, rfl, rfl, tbk_7 68 rfl rfl⟩
set_option maxRecDepth 20000 in
theorem fl_X12_81 : FLk RX12 81 12 36 true := ⟨_, _, cf12, Nat.le_of_ble_eq_true rfl, rfl, rfl, tbk_7 72 rfl rfl⟩
set_option maxRecDepth 20000 in
theorem fl_X12_84 : FLk RX12 84 12 37 true := ⟨_, _, cf12, Nat.le_of_ble_eq_true rfl, rfl, rfl, tbk_7 73 rfl rfl⟩
set_option maxRecDepth 20000 in
theorem fl_X12_87 : FLk RX12 87 12 38 true := ⟨_, _, cf12, Nat.le_of_ble_eq_true rfl, rfl, rfl, tbk_7 74 rfl rfl⟩
set_option maxRecDepth 20000 in
theorem fl_X12_90 : FLk RX12 90 12 39 true := ⟨_, _, cf12, Nat.le_of_ble_eq_true rfl, rfl, rfl, tbk_7 75 rfl rfl⟩
set_option maxRecDepth 20000 in
theorem fl_X12_93 : FLk RX12 93 12 40 true := ⟨_, _, cf12, Nat.le_of_ble_eq_true rfl, rfl, rfl, tbk_7 76 rfl rfl⟩
set_option maxRecDepth 20000 in
theorem fl_X12_96 : FLk RX12 96 12 41 true := ⟨_, _, cf12, Nat.le_of_ble_eq_true rfl, rfl, rfl, tbk_7 77 rfl rfl⟩
set_option maxRecDepth 20000 in
theorem fl_X12_99 : FLk RX12 99 12 42 true := ⟨_, _, cf12, Nat.le_of_ble_eq_true rfl, rfl, rfl, tbk_7 78 rfl rfl⟩
set_option maxRecDepth 20000 in
theorem fl_X12_102 : FLk RX12 102 12 47 true := ⟨_, _, cf12, Nat.le_of_ble_eq_true rfl, rfl, rfl, tbk_7 83 rfl rfl⟩
set_option maxRecDepth 20000 in
theorem fl_X12_105 : FLk RX12 105 12 51 true := ⟨_, _, cf12, Nat.le_of_ble_eq_true rfl, rfl, rfl, tbk_7 87 rfl rfl⟩
set_option maxRecDepth 20000 in
theorem fl_X12_108 : FLk RX12 108 12 52 true := ⟨_, _, cf12, Nat.le_of_ble_eq_true rfl, rfl, rfl, tbk_7 88 rfl rfl⟩
set_option maxRecDepth 20000 in
theorem fl_X12_111 : FLk RX12 111 12 57 true := ⟨_, _, cf12, Nat.le_of_ble_eq_true rfl, rfl, rfl, tbk_7 93 rfl rfl⟩
set_option maxRecDepth 20000 in
theorem fl_X12_114 : FLk RX12 114 12 62 false := ⟨_, _, cf12, Nat.le_of_ble_eq_true rfl, rfl, rfl, tbk_7 98 rfl rfl⟩
set_option maxRecDepth 20000 in
theorem fl_X12_117 : FLk RX12 117 12 63 true := ⟨_, _, cf12, Nat.le_of_ble_eq_true rfl, rfl, rfl, tbk_7 99 rfl rfl⟩
set_option maxRecDepth 20000 in
theorem fl_X12_120 : FLk RX12 120 12 64 true := ⟨_, _, cf12, Nat.le_of_ble_eq_true rfl, rfl, rfl, tbk_7 100 rfl rfl⟩
set_option maxRecDepth 20000 in
theorem fl_X12_123 : FLk RX12 123 12 65 true := ⟨_, _, cf12, Nat.le_of_ble_eq_true rfl, rfl, rfl, tbk_7 101 rfl rfl⟩
set_option maxRecDepth 20000 in
theorem fl_X12_126 : FLk RX12 126 12 66 true := ⟨_, _, cf12, Nat.le_of_ble_eq_true rfl, rfl, rfl, tbk_7 102 rfl rfl⟩
set_option maxRecDepth 20000 in
theorem fl_X12_129 : FLk RX12 129 12 67 true := ⟨_, _, cf12, Nat.le_of_ble_eq_true rfl, rfl, rfl, tbk_7 103 rfl rfl⟩
set_option maxRecDepth 20000 in
theorem fl_X12_132 : FLk RX12 132 12 68 true := ⟨_, _, cf12, Nat.le_of_ble_eq_true rfl, rfl, rfl, tbk_7 104 rfl rfl⟩
set_option maxRecDepth 20000 in
theorem fl_X12_135 : FLk RX12 135 12 69 true := ⟨_, _, cf12, Nat.le_of_ble_eq_true rfl, rfl, rfl, tbk_7 105 rfl rfl⟩
set_option maxRecDepth 20000 in
theorem fl_X12_138 : FLk RX12 138 12 70 true := ⟨_, _, cf12, Nat.le_of_ble_eq_true rfl, rfl, rfl, tbk_7 106 rfl rfl⟩
set_option maxRecDepth 20000 in
theorem fl_X12_141 : FLk RX12 141 12 71 true := ⟨_, _, cf12, Nat.le_of_ble_eq_true rfl, rfl, rfl, tbk_7 107 rfl rfl⟩
set_option maxRecDepth 20000 in
theorem fl_X12_144 : FLk RX12 144 12 72 true := ⟨_, _, cf12, Nat.le_of_ble_eq_true rfl, rfl, rfl, tbk_7 108 rfl rfl⟩
set_option maxRecDepth 20000 in
theorem fl_X12_147 : FLk RX12 147 12 73 true := ⟨_, _, cf12, Nat.le_of_ble_eq_true rfl, rfl, rfl, tbk_7 109 rfl rfl⟩
set_option maxRecDepth 20000 in
theorem fl_X12_150 : FLk RX12 150 12 74 true := ⟨_, _, cf12, Nat.le_of_ble_eq_true rfl, rfl, rfl, tbk_7 110 rfl rfl⟩
set_option maxRecDepth 20000 in
theorem fl_X12_153 : FLk RX12 153 12 75 true := ⟨_, _, cf12, Nat.le_of_ble_eq_true rfl, rfl, rfl, tbk_7 111 rfl rfl⟩
set_option maxRecDepth 20000 in
theorem fl_X12_156 : FLk RX12 156 12 76 true := ⟨_, _, cf12, Nat.le_of_ble_eq_true rfl, rfl, rfl, tbk_7 112 rfl rfl⟩
set_option maxRecDepth 20000 in
theorem fl_X12_159 : FLk RX12 159 12 77 true := ⟨_, _, cf12, Nat.le_of_ble_eq_true rfl, rfl, rfl, tbk_7 113 rfl rfl⟩
set_option maxRecDepth 20000 in
theorem fl_X12_162 : FLk RX12 162 12 79 true := ⟨_, _, cf12, Nat.le_of_ble_eq_true rfl, rfl, rfl, tbk_7 115 rfl rfl⟩
set_option maxRecDepth 20000 in
theorem fl_X12_165 : FLk RX12 165 12 80 true := ⟨_, _, cf12, Nat.le_of_ble_eq_true rfl, rfl, rfl, tbk_7 116 rfl rfl⟩
set_option maxRecDepth 20000 in
theorem fl_X12_168 : FLk RX12 168 12 81 true := ⟨_, _, cf12, Nat.le_of_ble_eq_true rfl, rfl, rfl, tbk_7 117 rfl rfl⟩
set_option maxRecDepth 20000 in
theorem fl_X12_224 : FLk RX12 224 12 11 false := ⟨_, _, cf12, Nat.le_of_ble_eq_true rfl, rfl, rfl, tbk_7 47 rfl rfl⟩
set_option maxRecDepth 20000 in
theorem fl_X12_227 : FLk RX12 227 12 12 false := ⟨_, _, cf12, Nat.le_of_ble_eq_true rfl, rfl, rfl, tbk_7 48 rfl rfl⟩
set_option maxRecDepth 20000 in
theorem fl_X12_230 : FLk RX12 230 12 10 false := ⟨_, _, cf12, Nat.le_of_ble_eq_true rfl, rfl, rfl, tbk_7 46 rfl rfl⟩
set_option maxRecDepth 20000 in
theorem fl_X12_240 : FLk RX12 240 12 13 false := ⟨_, _, cf12, Nat.le_of_ble_eq_true rfl, rfl, rfl, tbk_7 49 rfl rfl⟩
set_option maxRecDepth 20000 in
theorem fl_X12_243 : FLk RX12 243 12 16 false := ⟨_, _, cf12, Nat.le_of_ble_eq_true rfl, rfl, rfl, tbk_7 52 rfl rfl⟩
set_option maxRecDepth 20000 in
theorem fl_X12_247 : FLk RX12 247 12 14 false := ⟨_, _, cf12, Nat.le_of_ble_eq_true rfl, rfl, rfl, tbk_7 50 rfl rfl⟩
set_option maxRecDepth 20000 in
theorem fl_X12_250 : FLk RX12 250 12 15 false := ⟨_, _, cf12, Nat.le_of_ble_eq_true rfl, rfl, rfl, tbk_7 51 rfl rfl⟩
set_option maxRecDepth 20000 in
theorem fl_X12_266 : FLk RX12 266 12 17 false := ⟨_, _, cf12, Nat.le_of_ble_eq_true rfl, rfl, rfl, tbk_7 53 rfl rfl⟩
set_option maxRecDepth 20000 in
theorem fl_X12_277 : FLk RX12 277 12 19 false := ⟨_, _, cf12, Nat.le_of_ble_eq_true rfl, rfl, rfl, tbk_7 55 rfl rfl⟩
set_option maxRecDepth 20000 in
theorem fl_X12_295 : FLk RX12 295 12 18 false := ⟨_, _, cf12, Nat.le_of_ble_eq_true rfl, rfl, rfl, tbk_7 54 rfl rfl⟩
set_option maxRecDepth 20000 in
theorem fl_X12_338 : FLk RX12 338 12 28 false := ⟨_, _, cf12, Nat.le_of_ble_eq_true rfl, rfl, rfl, tbk_7 64 rfl rfl⟩
set_option maxRecDepth 20000 in
theorem fl_X12_341 : FLk RX12 341 12 29 false := ⟨_, _, cf12, Nat.le_of_ble_eq_true rfl, rfl, rfl, tbk_7 65 rfl rfl⟩
set_option maxRecDepth 20000 in
theorem fl_X12_353 : FLk RX12 353 12 33 false := ⟨_, _, cf12, Nat.le_of_ble_eq_true rfl, rfl, rfl, tbk_7 69 rfl rfl⟩
set_option maxRecDepth 20000 in
theorem fl_X12_356 : FLk RX12 356 12 34 false := ⟨_, _, cf12, Nat.le_of_ble_eq_true rfl, rfl, rfl, tbk_7 70 rfl rfl⟩
set_option maxRecDepth 20000 in
theorem fl_X12_378 : FLk RX12 378 12 35 false := ⟨_, _, cf12, Nat.le_of_ble_eq_true rfl, rfl, rfl, tbk_7 71 rfl rfl⟩
set_option maxRecDepth 20000 in
theorem fl_X12_397 : FLk RX12 397 12 43 false := ⟨_, _, cf12, Nat.le_of_ble_eq_true rfl, rfl, rfl, tbk_7 79 rfl rfl⟩
set_option maxRecDepth 20000 in
theorem fl_X12_403 : FLk RX12 403 12 44 false := ⟨_, _, cf12, Nat.le_of_ble_eq_true rfl, rfl, rfl, tbk_7 80 rfl rfl⟩
set_option maxRecDepth 20000 in
theorem fl_X12_406 : FLk RX12 406 12 45 false := ⟨_, _, cf12, Nat.le_of_ble_eq_true rfl, rfl, rfl, tbk_7 81 rfl rfl⟩
set_option maxRecDepth 20000 in
theorem fl_X12_409 : FLk RX12 409 12 46 false := ⟨_, _, cf12, Nat.le_of_ble_eq_true rfl, rfl, rfl, tbk_7 82 rfl rfl⟩
set_option maxRecDepth 20000 in
theorem fl_X12_421 : FLk RX12 421 12 48 false := ⟨_, _, cf12, Nat.le_of_ble_eq_true rfl, rfl, rfl, tbk_7 84 rfl rfl⟩
set_option maxRecDepth 20000 in
theorem fl_X12_424 : FLk RX12 424 12 49 false := ⟨_, _, cf12, Nat.le_of_ble_eq_true rfl, rfl, rfl, tbk_7 85 rfl rfl⟩
set_option maxRecDepth 20000 in
theorem fl_X12_427 : FLk RX12 427 12 50 false := ⟨_, _, cf12, Nat.le_of_ble_eq_true rfl, rfl, rfl, tbk_7 86 rfl rfl⟩
set_option maxRecDepth 20000 in
theorem fl_X12_446 : FLk RX12 446 12 55 false := ⟨_, _, cf12, Nat.le_of_ble_eq_true rfl, rfl, rfl, tbk_7 91 rfl rfl⟩
set_option maxRecDepth 20000 in
theorem fl_X12_452 : FLk RX12 452 12 53 false := ⟨_, _, cf12, Nat.le_of_ble_eq_true rfl, rfl, rfl, tbk_7 89 rfl rfl⟩
set_option maxRecDepth 20000 in
theorem fl_X12_455 : FLk RX12 455 12 54 false := ⟨_, _, cf12, Nat.le_of_ble_eq_true rfl, rfl, rfl, tbk_7 90 rfl rfl⟩
set_option maxRecDepth 20000 in
theorem fl_X12_458 : FLk RX12 458 12 56 false := ⟨_, _, cf12, Nat.le_of_ble_eq_true rfl, rfl, rfl, tbk_7 92 rfl rfl⟩
set_option maxRecDepth 20000 in
theorem fl_X12_461 : FLk RX12 461 12 58 false := ⟨_, _, cf12, Nat.le_of_ble_eq_true rfl, rfl, rfl, tbk_7 94 rfl rfl⟩
set_option maxRecDepth 20000 in
theorem fl_X12_496 : FLk RX12 496 12 60 false := ⟨_, _, cf12, Nat.le_of_ble_eq_true rfl, rfl, rfl, tbk_7 96 rfl rfl⟩
set_option maxRecDepth 20000 in
theorem fl_X12_499 : FLk RX12 499 12 61 false := ⟨_, _, cf12, Nat.le_of_ble_eq_true rfl, rfl, rfl, tbk_7 97 rfl rfl⟩
set_option maxRecDepth 20000 in
theorem fl_X12_502 : FLk RX12 502 12 59 false := ⟨_, _, cf12, Nat.le_of_ble_eq_true rfl, rfl, rfl, tbk_7 95 rfl rfl⟩
set_option maxRecDepth 20000 in
theorem fl_X12_529 : FLk RX12 529 12 78 false := ⟨_, _, cf12, Nat.le_of_ble_eq_true rfl, rfl, rfl, tbk_7 114 rfl rfl⟩
theorem ne1_X0 : RX0 ≠ "java/lang/invoke/MethodHandle" := by decide +kernel
theorem ne2_X0 : RX0 ≠ "java/lang/invoke/VarHandle" := by decide +kernel
theorem pn_X0 : plainName RX0 = true := by decide +kernel
theorem ne1_X1 : RX1 ≠ "java/lang/invoke/MethodHandle" := by decide +kernel
theorem ne2_X1 : RX1 ≠ "java/lang/invoke/VarHandle" := by decide +kernel
theorem pn_X1 : plainName RX1 = true := by decide +kernel
theorem ne1_X2 : RX2 ≠ "java/lang/invoke/MethodHandle" := by decide +kernel
theorem ne2_X2 : RX2 ≠ "java/lang/invoke/VarHandle" := by decide +kernel
theorem pn_X2 : plainName RX2 = true := by decide +kernel
theorem ne1_X3 : RX3 ≠ "java/lang/invoke/MethodHandle" := by decide +kernel
theorem ne2_X3 : RX3 ≠ "java/lang/invoke/VarHandle" := by decide +kernel
theorem pn_X3 : plainName RX3 = true := by decide +kernel
theorem ne1_X4 : RX4 ≠ "java/lang/invoke/MethodHandle" := by decide +kernel
theorem ne2_X4 : RX4 ≠ "java/lang/invoke/VarHandle" := by decide +kernel
theorem pn_X4 : plainName RX4 = true := by decide +kernel
theorem ne1_X5 : RX5 ≠ "java/lang/invoke/MethodHandle" := by decide +kernel
theorem ne2_X5 : RX5 ≠ "java/lang/invoke/VarHandle" := by decide +kernel
theorem pn_X5 : plainName RX5 = true := by decide +kernel
theorem ne1_X6 : RX6 ≠ "java/lang/invoke/MethodHandle" := by decide +kernel
theorem ne2_X6 : RX6 ≠ "java/lang/invoke/VarHandle" := by decide +kernel
theorem pn_X6 : plainName RX6 = true := by decide +kernel
theorem ne1_X7 : RX7 ≠ "java/lang/invoke/MethodHandle" := by decide +kernel
theorem ne2_X7 : RX7 ≠ "java/lang/invoke/VarHandle" := by decide +kernel
theorem pn_X7 : plainName RX7 = true := by decide +kernel
theorem ne1_X8 : RX8 ≠ "java/lang/invoke/MethodHandle" := by decide +kernel
theorem ne2_X8 : RX8 ≠ "java/lang/invoke/VarHandle" := by decide +kernel
theorem pn_X8 : plainName RX8 = true := by decide +kernel
theorem ne1_X9 : RX9 ≠ "java/lang/invoke/MethodHandle" := by decide +kernel
theorem ne2_X9 : RX9 ≠ "java/lang/invoke/VarHandle" := by decide +kernel
theorem pn_X9 : plainName RX9 = true := by decide +kernel
theorem ne1_X10 : RX10 ≠ "java/lang/invoke/MethodHandle" := by decide +kernel
theorem ne2_X10 : RX10 ≠ "java/lang/invoke/VarHandle" := by decide +kernel
theorem pn_X10 : plainName RX10 = true := by decide +kernel
theorem ne1_X11 : RX11 ≠ "java/lang/invoke/MethodHandle" := by decide +kernel
theorem ne2_X11 : RX11 ≠ "java/lang/invoke/VarHandle" := by decide +kernel
theorem pn_X11 : plainName RX11 = true := by decide +kernel
theorem ne1_X12 : RX12 ≠ "java/lang/invoke/MethodHandle" := by decide +kernel
theorem ne2_X12 : RX12 ≠ "java/lang/invoke/VarHandle" := by decide +kernel
theorem pn_X12 : plainName RX12 = true := by decide +kernel
theorem ne1_L : RL ≠ "java/lang/invoke/MethodHandle" := by decide +kernel
theorem ne2_L : RL ≠ "java/lang/invoke/VarHandle" := by decide +kernel
theorem pn_L : plainName RL = true := by decide +kernel
theorem pd_0 : (parseMethodDescriptor "()V").map (fun d => d.parameters.length) = some 0 := by decide +kernel
set_option maxRecDepth 20000 in
theorem mn_X7_init : MLn mX7_init 0 := ⟨tbk_1 2 rfl rfl, tbk_1 36 rfl rfl, ne1_X7, ne2_X7, pd_0, Nat.le_of_ble_eq_true rfl, pn_X7⟩
set_option maxRecDepth 20000 in
theorem ml_X11_9 : MLiN RX11 9 mX7_init 0 := ⟨mn_X7_init, ⟨_, List.mem_of_getElem? (i := 152) (rfl : lw_tbl[152]? = some (Cond.methodLinkNest RX11 9 yX7_init "DeadPacks"))⟩, tbk_1 35 rfl rfl, rfl, rfl⟩
set_option maxRecDepth 20000 in
theorem mn_X5_init : MLn mX5_init 0 := ⟨tbk_1 3 rfl rfl, tbk_1 86 rfl rfl, ne1_X5, ne2_X5, pd_0, Nat.le_of_ble_eq_true rfl, pn_X5⟩
set_option maxRecDepth 20000 in
theorem ml_X11_18 : MLiN RX11 18 mX5_init 0 := ⟨mn_X5_init, ⟨_, List.mem_of_getElem? (i := 202) (rfl : lw_tbl[202]? = some (Cond.methodLinkNest RX11 18 yX5_init "DeadPacks"))⟩, tbk_1 85 rfl rfl, rfl, rfl⟩
set_option maxRecDepth 20000 in
theorem mn_X0_init : MLn mX0_init 0 := ⟨tbk_1 4 rfl rfl, tbk_1 92 rfl rfl, ne1_X0, ne2_X0, pd_0, Nat.le_of_ble_eq_true rfl, pn_X0⟩
set_option maxRecDepth 20000 in
theorem ml_X11_29 : MLiN RX11 29 mX0_init 0 := ⟨mn_X0_init, ⟨_, List.mem_of_getElem? (i := 400) (rfl : lw_tbl[400]? = some (Cond.methodLinkNest RX11 29 yX0_init "DeadPacks"))⟩, tbk_1 91 rfl rfl, rfl, rfl⟩
set_option maxRecDepth 20000 in
theorem mn_X3_init : MLn mX3_init 0 := ⟨tbk_1 5 rfl rfl, tbk_1 137 rfl rfl, ne1_X3, ne2_X3, pd_0, Nat.le_of_ble_eq_true rfl, pn_X3⟩
set_option maxRecDepth 20000 in
theorem ml_X11_36 : MLiN RX11 36 mX3_init 0 := ⟨mn_X3_init, ⟨_, List.mem_of_getElem? (i := 402) (rfl : lw_tbl[402]? = some (Cond.methodLinkNest RX11 36 yX3_init "DeadPacks"))⟩, tbk_1 136 rfl rfl, rfl, rfl⟩
set_option maxRecDepth 20000 in
theorem mn_X8_init : MLn mX8_init 0 := ⟨tbk_1 7 rfl rfl, tbk_2 49 rfl rfl, ne1_X8, ne2_X8, pd_0, Nat.le_of_ble_eq_true rfl, pn_X8⟩
set_option maxRecDepth 20000 in
theorem ml_X11_43 : MLiN RX11 43 mX8_init 0 := ⟨mn_X8_init, ⟨_, List.mem_of_getElem? (i := 405) (rfl : lw_tbl[405]? = some (Cond.methodLinkNest RX11 43 yX8_init "DeadPacks"))⟩, tbk_2 48 rfl rfl, rfl, rfl⟩
set_option maxRecDepth 20000 in
theorem mn_X2_init : MLn mX2_init 0 := ⟨tbk_1 8 rfl rfl, tbk_2 97 rfl rfl, ne1_X2, ne2_X2, pd_0, Nat.le_of_ble_eq_true rfl, pn_X2⟩
set_option maxRecDepth 20000 in
theorem ml_X11_54 : MLiN RX11 54 mX2_init 0 := ⟨mn_X2_init, ⟨_, List.mem_of_getElem? (i := 453) (rfl : lw_tbl[453]? = some (Cond.methodLinkNest RX11 54 yX2_init "DeadPacks"))⟩, tbk_2 96 rfl rfl, rfl, rfl⟩
set_option maxRecDepth 20000 in
theorem mn_X6_init : MLn mX6_init 0 := ⟨tbk_1 9 rfl rfl, tbk_2 163 rfl rfl, ne1_X6, ne2_X6, pd_0, Nat.le_of_ble_eq_true rfl, pn_X6⟩
set_option maxRecDepth 20000 in
theorem ml_X11_61 : MLiN RX11 61 mX6_init 0 := ⟨mn_X6_init, ⟨_, List.mem_of_getElem? (i := 519) (rfl : lw_tbl[519]? = some (Cond.methodLinkNest RX11 61 yX6_init "DeadPacks"))⟩, tbk_2 162 rfl rfl, rfl, rfl⟩
set_option maxRecDepth 20000 in
theorem mn_X4_init : MLn mX4_init 0 := ⟨tbk_1 10 rfl rfl, tbk_2 207 rfl rfl, ne1_X4, ne2_X4, pd_0, Nat.le_of_ble_eq_true rfl, pn_X4⟩
set_option maxRecDepth 20000 in
theorem ml_X11_68 : MLiN RX11 68 mX4_init 0 := ⟨mn_X4_init, ⟨_, List.mem_of_getElem? (i := 563) (rfl : lw_tbl[563]? = some (Cond.methodLinkNest RX11 68 yX4_init "DeadPacks"))⟩, tbk_2 206 rfl rfl, rfl, rfl⟩
set_option maxRecDepth 20000 in
theorem mn_X10_init : MLn mX10_init 0 := ⟨tbk_1 11 rfl rfl, tbk_3 2 rfl rfl, ne1_X10, ne2_X10, pd_0, Nat.le_of_ble_eq_true rfl, pn_X10⟩
set_option maxRecDepth 20000 in
theorem ml_X11_85 : MLiN RX11 85 mX10_init 0 := ⟨mn_X10_init, ⟨_, List.mem_of_getElem? (i := 598) (rfl : lw_tbl[598]? = some (Cond.methodLinkNest RX11 85 yX10_init "DeadPacks"))⟩, tbk_3 1 rfl rfl, rfl, rfl⟩
set_option maxRecDepth 20000 in
theorem mn_X9_init : MLn mX9_init 0 := ⟨tbk_1 12 rfl rfl, tbk_3 48 rfl rfl, ne1_X9, ne2_X9, pd_0, Nat.le_of_ble_eq_true rfl, pn_X9⟩
set_option maxRecDepth 20000 in
theorem ml_X11_95 : MLiN RX11 95 mX9_init 0 := ⟨mn_X9_init, ⟨_, List.mem_of_getElem? (i := 644) (rfl : lw_tbl[644]? = some (Cond.methodLinkNest RX11 95 yX9_init "DeadPacks"))⟩, tbk_3 47 rfl rfl, rfl, rfl⟩
theorem pd_1 : (parseMethodDescriptor "(I)V").map (fun d => d.parameters.length) = some 1 := by decide +kernel
set_option maxRecDepth 20000 in
theorem mn_X7_add : MLn mX7_add 1 := ⟨tbk_1 2 rfl rfl, tbk_3 127 rfl rfl, ne1_X7, ne2_X7, pd_1, Nat.le_of_ble_eq_true rfl, pn_X7⟩
set_option maxRecDepth 20000 in
theorem ml_X11_103 : MLv RX11 103 mX7_add 1 := ⟨mn_X7_add, tbk_3 124 rfl rfl, tbk_3 125 rfl rfl, tbk_3 126 rfl rfl⟩
theorem pd_2 : (parseMethodDescriptor "(LDeadPacks$Tape;)Z").map (fun d => d.parameters.length) = some 1 := by decide +kernel
set_option maxRecDepth 20000 in
theorem mn_X0_readFrom : MLn mX0_readFrom 1 := ⟨tbk_1 4 rfl rfl, tbk_3 139 rfl rfl, ne1_X0, ne2_X0, pd_2, Nat.le_of_ble_eq_true rfl, pn_X0⟩
set_option maxRecDepth 20000 in
theorem ml_X11_107 : MLv RX11 107 mX0_readFrom 1 := ⟨mn_X0_readFrom, tbk_3 136 rfl rfl, tbk_3 137 rfl rfl, tbk_3 138 rfl rfl⟩
theorem pd_3 : (parseMethodDescriptor "(LDeadPacks$House;)V").map (fun d => d.parameters.length) = some 1 := by decide +kernel
set_option maxRecDepth 20000 in
theorem mn_X5_renew : MLn mX5_renew 1 := ⟨tbk_1 3 rfl rfl, tbk_4 16 rfl rfl, ne1_X5, ne2_X5, pd_3, Nat.le_of_ble_eq_true rfl, pn_X5⟩
set_option maxRecDepth 20000 in
theorem ml_X11_114 : MLv RX11 114 mX5_renew 1 := ⟨mn_X5_renew, tbk_4 13 rfl rfl, tbk_4 14 rfl rfl, tbk_4 15 rfl rfl⟩
theorem pd_4 : (parseMethodDescriptor "(I)Z").map (fun d => d.parameters.length) = some 1 := by decide +kernel
set_option maxRecDepth 20000 in
theorem mn_X0_hasBox : MLn mX0_hasBox 1 := ⟨tbk_1 4 rfl rfl, tbk_4 36 rfl rfl, ne1_X0, ne2_X0, pd_4, Nat.le_of_ble_eq_true rfl, pn_X0⟩
set_option maxRecDepth 20000 in
theorem ml_X11_131 : MLv RX11 131 mX0_hasBox 1 := ⟨mn_X0_hasBox, tbk_4 33 rfl rfl, tbk_4 34 rfl rfl, tbk_4 35 rfl rfl⟩
theorem pd_5 : (parseMethodDescriptor "(I)I").map (fun d => d.parameters.length) = some 1 := by decide +kernel
set_option maxRecDepth 20000 in
theorem mn_X5_addCell : MLn mX5_addCell 1 := ⟨tbk_1 3 rfl rfl, tbk_4 40 rfl rfl, ne1_X5, ne2_X5, pd_5, Nat.le_of_ble_eq_true rfl, pn_X5⟩
set_option maxRecDepth 20000 in
theorem ml_X11_135 : MLv RX11 135 mX5_addCell 1 := ⟨mn_X5_addCell, tbk_4 37 rfl rfl, tbk_4 38 rfl rfl, tbk_4 39 rfl rfl⟩
set_option maxRecDepth 20000 in
theorem mn_X5_hasCell : MLn mX5_hasCell 1 := ⟨tbk_1 3 rfl rfl, tbk_4 48 rfl rfl, ne1_X5, ne2_X5, pd_4, Nat.le_of_ble_eq_true rfl, pn_X5⟩
set_option maxRecDepth 20000 in
theorem ml_X11_139 : MLv RX11 139 mX5_hasCell 1 := ⟨mn_X5_hasCell, tbk_4 45 rfl rfl, tbk_4 46 rfl rfl, tbk_4 47 rfl rfl⟩
set_option maxRecDepth 20000 in
theorem mn_X0_hasBench : MLn mX0_hasBench 1 := ⟨tbk_1 4 rfl rfl, tbk_4 52 rfl rfl, ne1_X0, ne2_X0, pd_4, Nat.le_of_ble_eq_true rfl, pn_X0⟩
set_option maxRecDepth 20000 in
theorem ml_X11_142 : MLv RX11 142 mX0_hasBench 1 := ⟨mn_X0_hasBench, tbk_4 49 rfl rfl, tbk_4 50 rfl rfl, tbk_4 51 rfl rfl⟩
theorem pd_6 : (parseMethodDescriptor "(III)Z").map (fun d => d.parameters.length) = some 3 := by decide +kernel
set_option maxRecDepth 20000 in
theorem mn_X11_within : MLn mX11_within 3 := ⟨tbk_1 1 rfl rfl, tbk_4 55 rfl rfl, ne1_X11, ne2_X11, pd_6, Nat.le_of_ble_eq_true rfl, pn_X11⟩
set_option maxRecDepth 20000 in
theorem ml_X11_145 : MLs RX11 145 mX11_within 3 := ⟨mn_X11_within, tbk_4 53 rfl rfl, tbk_4 54 rfl rfl⟩
theorem pd_7 : (parseMethodDescriptor "(IIII)I").map (fun d => d.parameters.length) = some 4 := by decide +kernel
set_option maxRecDepth 20000 in
theorem mn_X5_addReading : MLn mX5_addReading 4 := ⟨tbk_1 3 rfl rfl, tbk_4 59 rfl rfl, ne1_X5, ne2_X5, pd_7, Nat.le_of_ble_eq_true rfl, pn_X5⟩
set_option maxRecDepth 20000 in
theorem ml_X11_152 : MLv RX11 152 mX5_addReading 4 := ⟨mn_X5_addReading, tbk_4 56 rfl rfl, tbk_4 57 rfl rfl, tbk_4 58 rfl rfl⟩
set_option maxRecDepth 20000 in
theorem mn_X5_addRest : MLn mX5_addRest 4 := ⟨tbk_1 3 rfl rfl, tbk_4 67 rfl rfl, ne1_X5, ne2_X5, pd_7, Nat.le_of_ble_eq_true rfl, pn_X5⟩
set_option maxRecDepth 20000 in
theorem ml_X11_165 : MLv RX11 165 mX5_addRest 4 := ⟨mn_X5_addRest, tbk_4 64 rfl rfl, tbk_4 65 rfl rfl, tbk_4 66 rfl rfl⟩
theorem pd_8 : (parseMethodDescriptor "(LDeadPacks$Stock;)V").map (fun d => d.parameters.length) = some 1 := by decide +kernel
set_option maxRecDepth 20000 in
theorem mn_X8_refresh : MLn mX8_refresh 1 := ⟨tbk_1 7 rfl rfl, tbk_4 75 rfl rfl, ne1_X8, ne2_X8, pd_8, Nat.le_of_ble_eq_true rfl, pn_X8⟩
set_option maxRecDepth 20000 in
theorem ml_X11_171 : MLv RX11 171 mX8_refresh 1 := ⟨mn_X8_refresh, tbk_4 72 rfl rfl, tbk_4 73 rfl rfl, tbk_4 74 rfl rfl⟩
set_option maxRecDepth 20000 in
theorem mn_X8_flowOf : MLn mX8_flowOf 1 := ⟨tbk_1 7 rfl rfl, tbk_4 226 rfl rfl, ne1_X8, ne2_X8, pd_5, Nat.le_of_ble_eq_true rfl, pn_X8⟩
set_option maxRecDepth 20000 in
theorem ml_X11_197 : MLv RX11 197 mX8_flowOf 1 := ⟨mn_X8_flowOf, tbk_4 223 rfl rfl, tbk_4 224 rfl rfl, tbk_4 225 rfl rfl⟩
theorem pd_9 : (parseMethodDescriptor "(II)I").map (fun d => d.parameters.length) = some 2 := by decide +kernel
set_option maxRecDepth 20000 in
theorem mn_X8_toldOf : MLn mX8_toldOf 2 := ⟨tbk_1 7 rfl rfl, tbk_4 120 rfl rfl, ne1_X8, ne2_X8, pd_9, Nat.le_of_ble_eq_true rfl, pn_X8⟩
set_option maxRecDepth 20000 in
theorem ml_X11_200 : MLv RX11 200 mX8_toldOf 2 := ⟨mn_X8_toldOf, tbk_6 206 rfl rfl, tbk_4 118 rfl rfl, tbk_4 119 rfl rfl⟩
set_option maxRecDepth 20000 in
theorem mn_X8_mostSpread : MLn mX8_mostSpread 1 := ⟨tbk_1 7 rfl rfl, tbk_4 116 rfl rfl, ne1_X8, ne2_X8, pd_5, Nat.le_of_ble_eq_true rfl, pn_X8⟩
set_option maxRecDepth 20000 in
theorem ml_X11_207 : MLv RX11 207 mX8_mostSpread 1 := ⟨mn_X8_mostSpread, tbk_4 113 rfl rfl, tbk_4 114 rfl rfl, tbk_4 115 rfl rfl⟩
set_option maxRecDepth 20000 in
theorem mn_X5_fallenBy : MLn mX5_fallenBy 1 := ⟨tbk_1 3 rfl rfl, tbk_4 132 rfl rfl, ne1_X5, ne2_X5, pd_5, Nat.le_of_ble_eq_true rfl, pn_X5⟩
set_option maxRecDepth 20000 in
theorem ml_X11_210 : MLv RX11 210 mX5_fallenBy 1 := ⟨mn_X5_fallenBy, tbk_6 214 rfl rfl, tbk_4 130 rfl rfl, tbk_4 131 rfl rfl⟩
set_option maxRecDepth 20000 in
theorem mn_X5_daysBetween : MLn mX5_daysBetween 1 := ⟨tbk_1 3 rfl rfl, tbk_4 136 rfl rfl, ne1_X5, ne2_X5, pd_5, Nat.le_of_ble_eq_true rfl, pn_X5⟩
set_option maxRecDepth 20000 in
theorem ml_X11_213 : MLv RX11 213 mX5_daysBetween 1 := ⟨mn_X5_daysBetween, tbk_6 215 rfl rfl, tbk_4 134 rfl rfl, tbk_4 135 rfl rfl⟩
set_option maxRecDepth 20000 in
theorem mn_X11_greatestDivisor : MLn mX11_greatestDivisor 2 := ⟨tbk_1 1 rfl rfl, tbk_6 218 rfl rfl, ne1_X11, ne2_X11, pd_9, Nat.le_of_ble_eq_true rfl, pn_X11⟩
set_option maxRecDepth 20000 in
theorem ml_X11_216 : MLs RX11 216 mX11_greatestDivisor 2 := ⟨mn_X11_greatestDivisor, tbk_6 216 rfl rfl, tbk_6 217 rfl rfl⟩
set_option maxRecDepth 20000 in
theorem mn_X11_cut : MLn mX11_cut 2 := ⟨tbk_1 1 rfl rfl, tbk_4 100 rfl rfl, ne1_X11, ne2_X11, pd_9, Nat.le_of_ble_eq_true rfl, pn_X11⟩
set_option maxRecDepth 20000 in
theorem ml_X11_219 : MLs RX11 219 mX11_cut 2 := ⟨mn_X11_cut, tbk_4 141 rfl rfl, tbk_4 99 rfl rfl⟩
set_option maxRecDepth 20000 in
theorem mn_X5_liesOf : MLn mX5_liesOf 1 := ⟨tbk_1 3 rfl rfl, tbk_4 128 rfl rfl, ne1_X5, ne2_X5, pd_5, Nat.le_of_ble_eq_true rfl, pn_X5⟩
set_option maxRecDepth 20000 in
theorem ml_X11_222 : MLv RX11 222 mX5_liesOf 1 := ⟨mn_X5_liesOf, tbk_4 125 rfl rfl, tbk_4 126 rfl rfl, tbk_4 127 rfl rfl⟩
theorem pd_10 : (parseMethodDescriptor "(LDeadPacks$Tape;LDeadPacks$House;)Z").map (fun d => d.parameters.length) = some 2 := by decide +kernel
set_option maxRecDepth 20000 in
theorem mn_X3_readFrom : MLn mX3_readFrom 2 := ⟨tbk_1 5 rfl rfl, tbk_4 149 rfl rfl, ne1_X3, ne2_X3, pd_10, Nat.le_of_ble_eq_true rfl, pn_X3⟩
set_option maxRecDepth 20000 in
theorem ml_X11_228 : MLv RX11 228 mX3_readFrom 2 := ⟨mn_X3_readFrom, tbk_4 146 rfl rfl, tbk_4 147 rfl rfl, tbk_4 148 rfl rfl⟩
theorem pd_11 : (parseMethodDescriptor "(LDeadPacks$Rule;)V").map (fun d => d.parameters.length) = some 1 := by decide +kernel
set_option maxRecDepth 20000 in
theorem mn_X3_copyFrom : MLn mX3_copyFrom 1 := ⟨tbk_1 5 rfl rfl, tbk_4 183 rfl rfl, ne1_X3, ne2_X3, pd_11, Nat.le_of_ble_eq_true rfl, pn_X3⟩
set_option maxRecDepth 20000 in
theorem ml_X11_234 : MLv RX11 234 mX3_copyFrom 1 := ⟨mn_X3_copyFrom, tbk_4 180 rfl rfl, tbk_4 181 rfl rfl, tbk_4 182 rfl rfl⟩
theorem pd_12 : (parseMethodDescriptor "(LDeadPacks$Stock;LDeadPacks$Truth;I)Z").map (fun d => d.parameters.length) = some 3 := by decide +kernel
set_option maxRecDepth 20000 in
theorem mn_X3_fits : MLn mX3_fits 3 := ⟨tbk_1 5 rfl rfl, tbk_4 192 rfl rfl, ne1_X3, ne2_X3, pd_12, Nat.le_of_ble_eq_true rfl, pn_X3⟩
set_option maxRecDepth 20000 in
theorem ml_X11_241 : MLv RX11 241 mX3_fits 3 := ⟨mn_X3_fits, tbk_4 189 rfl rfl, tbk_4 190 rfl rfl, tbk_4 191 rfl rfl⟩
theorem pd_13 : (parseMethodDescriptor "(IIZ)I").map (fun d => d.parameters.length) = some 3 := by decide +kernel
set_option maxRecDepth 20000 in
theorem mn_X11_pickCells : MLn mX11_pickCells 3 := ⟨tbk_1 1 rfl rfl, tbk_4 209 rfl rfl, ne1_X11, ne2_X11, pd_13, Nat.le_of_ble_eq_true rfl, pn_X11⟩
set_option maxRecDepth 20000 in
theorem ml_X11_245 : MLv RX11 245 mX11_pickCells 3 := ⟨mn_X11_pickCells, tbk_4 206 rfl rfl, tbk_4 208 rfl rfl, tb_mem 18 rfl rfl⟩
theorem pd_14 : (parseMethodDescriptor "(II)Z").map (fun d => d.parameters.length) = some 2 := by decide +kernel
set_option maxRecDepth 20000 in
theorem mn_X11_divides : MLn mX11_divides 2 := ⟨tbk_1 1 rfl rfl, tbk_4 217 rfl rfl, ne1_X11, ne2_X11, pd_14, Nat.le_of_ble_eq_true rfl, pn_X11⟩
set_option maxRecDepth 20000 in
theorem ml_X11_249 : MLs RX11 249 mX11_divides 2 := ⟨mn_X11_divides, tbk_4 215 rfl rfl, tbk_4 216 rfl rfl⟩
theorem pd_15 : (parseMethodDescriptor "(II)V").map (fun d => d.parameters.length) = some 2 := by decide +kernel
set_option maxRecDepth 20000 in
theorem mn_X2_start : MLn mX2_start 2 := ⟨tbk_1 8 rfl rfl, tbk_4 221 rfl rfl, ne1_X2, ne2_X2, pd_15, Nat.le_of_ble_eq_true rfl, pn_X2⟩
set_option maxRecDepth 20000 in
theorem ml_X11_253 : MLv RX11 253 mX2_start 2 := ⟨mn_X2_start, tbk_4 218 rfl rfl, tbk_4 219 rfl rfl, tbk_4 220 rfl rfl⟩
theorem pd_16 : (parseMethodDescriptor "(III)V").map (fun d => d.parameters.length) = some 3 := by decide +kernel
set_option maxRecDepth 20000 in
theorem mn_X2_tell : MLn mX2_tell 3 := ⟨tbk_1 8 rfl rfl, tbk_4 231 rfl rfl, ne1_X2, ne2_X2, pd_16, Nat.le_of_ble_eq_true rfl, pn_X2⟩
set_option maxRecDepth 20000 in
theorem ml_X11_260 : MLv RX11 260 mX2_tell 3 := ⟨mn_X2_tell, tbk_4 228 rfl rfl, tbk_4 229 rfl rfl, tbk_4 230 rfl rfl⟩
set_option maxRecDepth 20000 in
theorem mn_X2_find : MLn mX2_find 0 := ⟨tbk_1 8 rfl rfl, tbk_4 235 rfl rfl, ne1_X2, ne2_X2, pd_0, Nat.le_of_ble_eq_true rfl, pn_X2⟩
set_option maxRecDepth 20000 in
theorem ml_X11_264 : MLv RX11 264 mX2_find 0 := ⟨mn_X2_find, tbk_4 232 rfl rfl, tbk_4 233 rfl rfl, tbk_4 234 rfl rfl⟩
set_option maxRecDepth 20000 in
theorem mn_X6_start : MLn mX6_start 2 := ⟨tbk_1 9 rfl rfl, tbk_5 38 rfl rfl, ne1_X6, ne2_X6, pd_15, Nat.le_of_ble_eq_true rfl, pn_X6⟩
set_option maxRecDepth 20000 in
theorem ml_X11_282 : MLv RX11 282 mX6_start 2 := ⟨mn_X6_start, tbk_5 35 rfl rfl, tbk_5 36 rfl rfl, tbk_5 37 rfl rfl⟩
set_option maxRecDepth 20000 in
theorem mn_X6_find : MLn mX6_find 0 := ⟨tbk_1 9 rfl rfl, tbk_5 42 rfl rfl, ne1_X6, ne2_X6, pd_0, Nat.le_of_ble_eq_true rfl, pn_X6⟩
set_option maxRecDepth 20000 in
theorem ml_X11_284 : MLv RX11 284 mX6_find 0 := ⟨mn_X6_find, tbk_5 39 rfl rfl, tbk_5 40 rfl rfl, tbk_5 41 rfl rfl⟩
set_option maxRecDepth 20000 in
theorem mn_X11_strongCells : MLn mX11_strongCells 2 := ⟨tbk_1 1 rfl rfl, tbk_5 81 rfl rfl, ne1_X11, ne2_X11, pd_9, Nat.le_of_ble_eq_true rfl, pn_X11⟩
set_option maxRecDepth 20000 in
theorem ml_X11_299 : MLv RX11 299 mX11_strongCells 2 := ⟨mn_X11_strongCells, tbk_5 78 rfl rfl, tbk_5 80 rfl rfl, tb_mem 30 rfl rfl⟩
set_option maxRecDepth 20000 in
theorem mn_X11_strongPairs : MLn mX11_strongPairs 2 := ⟨tbk_1 1 rfl rfl, tbk_5 85 rfl rfl, ne1_X11, ne2_X11, pd_9, Nat.le_of_ble_eq_true rfl, pn_X11⟩
set_option maxRecDepth 20000 in
theorem ml_X11_302 : MLv RX11 302 mX11_strongPairs 2 := ⟨mn_X11_strongPairs, tbk_5 82 rfl rfl, tbk_5 84 rfl rfl, tb_mem 31 rfl rfl⟩
set_option maxRecDepth 20000 in
theorem mn_X7_at : MLn mX7_at 1 := ⟨tbk_1 2 rfl rfl, tbk_4 213 rfl rfl, ne1_X7, ne2_X7, pd_5, Nat.le_of_ble_eq_true rfl, pn_X7⟩
set_option maxRecDepth 20000 in
theorem ml_X11_305 : MLv RX11 305 mX7_at 1 := ⟨mn_X7_at, tbk_4 210 rfl rfl, tbk_4 211 rfl rfl, tbk_4 212 rfl rfl⟩
set_option maxRecDepth 20000 in
theorem mn_X4_start : MLn mX4_start 2 := ⟨tbk_1 10 rfl rfl, tbk_5 97 rfl rfl, ne1_X4, ne2_X4, pd_15, Nat.le_of_ble_eq_true rfl, pn_X4⟩
set_option maxRecDepth 20000 in
theorem ml_X11_308 : MLv RX11 308 mX4_start 2 := ⟨mn_X4_start, tbk_5 94 rfl rfl, tbk_5 95 rfl rfl, tbk_5 96 rfl rfl⟩
set_option maxRecDepth 20000 in
theorem mn_X4_find : MLn mX4_find 0 := ⟨tbk_1 10 rfl rfl, tbk_5 101 rfl rfl, ne1_X4, ne2_X4, pd_0, Nat.le_of_ble_eq_true rfl, pn_X4⟩
set_option maxRecDepth 20000 in
theorem ml_X11_312 : MLv RX11 312 mX4_find 0 := ⟨mn_X4_find, tbk_5 98 rfl rfl, tbk_5 99 rfl rfl, tbk_5 100 rfl rfl⟩
theorem pd_17 : (parseMethodDescriptor "([IIII)I").map (fun d => d.parameters.length) = some 4 := by decide +kernel
set_option maxRecDepth 20000 in
theorem mn_X1_make : MLn mX1_make 4 := ⟨tbk_1 6 rfl rfl, tbk_5 124 rfl rfl, ne1_X1, ne2_X1, pd_17, Nat.le_of_ble_eq_true rfl, pn_X1⟩
set_option maxRecDepth 20000 in
theorem ml_X11_319 : MLv RX11 319 mX1_make 4 := ⟨mn_X1_make, tbk_5 121 rfl rfl, tbk_5 122 rfl rfl, tbk_5 123 rfl rfl⟩
set_option maxRecDepth 20000 in
theorem mn_X1_has : MLn mX1_has 1 := ⟨tbk_1 6 rfl rfl, tbk_5 132 rfl rfl, ne1_X1, ne2_X1, pd_4, Nat.le_of_ble_eq_true rfl, pn_X1⟩
set_option maxRecDepth 20000 in
theorem ml_X11_323 : MLv RX11 323 mX1_has 1 := ⟨mn_X1_has, tbk_5 129 rfl rfl, tbk_5 130 rfl rfl, tbk_5 131 rfl rfl⟩
theorem pd_18 : (parseMethodDescriptor "(IILDeadPacks$Truth;LDeadPacks$House;)I").map (fun d => d.parameters.length) = some 4 := by decide +kernel
set_option maxRecDepth 20000 in
theorem mn_X1_cyclesOf : MLn mX1_cyclesOf 4 := ⟨tbk_1 6 rfl rfl, tbk_5 149 rfl rfl, ne1_X1, ne2_X1, pd_18, Nat.le_of_ble_eq_true rfl, pn_X1⟩
set_option maxRecDepth 20000 in
theorem ml_X11_329 : MLv RX11 329 mX1_cyclesOf 4 := ⟨mn_X1_cyclesOf, tbk_5 173 rfl rfl, tbk_5 147 rfl rfl, tbk_5 148 rfl rfl⟩
theorem pd_19 : (parseMethodDescriptor "(IILDeadPacks$Truth;)I").map (fun d => d.parameters.length) = some 3 := by decide +kernel
set_option maxRecDepth 20000 in
theorem mn_X1_holdOf : MLn mX1_holdOf 3 := ⟨tbk_1 6 rfl rfl, tbk_5 153 rfl rfl, ne1_X1, ne2_X1, pd_19, Nat.le_of_ble_eq_true rfl, pn_X1⟩
set_option maxRecDepth 20000 in
theorem ml_X11_333 : MLv RX11 333 mX1_holdOf 3 := ⟨mn_X1_holdOf, tbk_5 219 rfl rfl, tbk_5 151 rfl rfl, tbk_5 152 rfl rfl⟩
set_option maxRecDepth 20000 in
theorem mn_X1_flowOf : MLn mX1_flowOf 3 := ⟨tbk_1 6 rfl rfl, tbk_5 163 rfl rfl, ne1_X1, ne2_X1, pd_19, Nat.le_of_ble_eq_true rfl, pn_X1⟩
set_option maxRecDepth 20000 in
theorem ml_X11_337 : MLv RX11 337 mX1_flowOf 3 := ⟨mn_X1_flowOf, tbk_6 226 rfl rfl, tbk_5 161 rfl rfl, tbk_5 162 rfl rfl⟩
set_option maxRecDepth 20000 in
theorem mn_X1_cellAt : MLn mX1_cellAt 2 := ⟨tbk_1 6 rfl rfl, tbk_5 136 rfl rfl, ne1_X1, ne2_X1, pd_9, Nat.le_of_ble_eq_true rfl, pn_X1⟩
set_option maxRecDepth 20000 in
theorem ml_X11_341 : MLv RX11 341 mX1_cellAt 2 := ⟨mn_X1_cellAt, tbk_5 133 rfl rfl, tbk_5 134 rfl rfl, tbk_5 135 rfl rfl⟩
theorem pd_20 : (parseMethodDescriptor "(ILDeadPacks$Truth;LDeadPacks$House;)I").map (fun d => d.parameters.length) = some 3 := by decide +kernel
set_option maxRecDepth 20000 in
theorem mn_X1_endingRow : MLn mX1_endingRow 3 := ⟨tbk_1 6 rfl rfl, tbk_5 144 rfl rfl, ne1_X1, ne2_X1, pd_20, Nat.le_of_ble_eq_true rfl, pn_X1⟩
set_option maxRecDepth 20000 in
theorem ml_X11_344 : MLv RX11 344 mX1_endingRow 3 := ⟨mn_X1_endingRow, tbk_5 141 rfl rfl, tbk_5 142 rfl rfl, tbk_5 143 rfl rfl⟩
set_option maxRecDepth 20000 in
theorem mn_X8_has : MLn mX8_has 1 := ⟨tbk_1 7 rfl rfl, tbk_4 91 rfl rfl, ne1_X8, ne2_X8, pd_4, Nat.le_of_ble_eq_true rfl, pn_X8⟩
set_option maxRecDepth 20000 in
theorem ml_X11_354 : MLv RX11 354 mX8_has 1 := ⟨mn_X8_has, tbk_4 214 rfl rfl, tbk_4 89 rfl rfl, tbk_4 90 rfl rfl⟩
theorem pd_21 : (parseMethodDescriptor "(IIII)Z").map (fun d => d.parameters.length) = some 4 := by decide +kernel
set_option maxRecDepth 20000 in
theorem mn_X1_exchange : MLn mX1_exchange 4 := ⟨tbk_1 6 rfl rfl, tbk_5 185 rfl rfl, ne1_X1, ne2_X1, pd_21, Nat.le_of_ble_eq_true rfl, pn_X1⟩
set_option maxRecDepth 20000 in
theorem ml_X11_355 : MLv RX11 355 mX1_exchange 4 := ⟨mn_X1_exchange, tbk_5 182 rfl rfl, tbk_5 183 rfl rfl, tbk_5 184 rfl rfl⟩
theorem pd_22 : (parseMethodDescriptor "(I[IILDeadPacks$Truth;LDeadPacks$House;)I").map (fun d => d.parameters.length) = some 5 := by decide +kernel
set_option maxRecDepth 20000 in
theorem mn_X1_bestPair : MLn mX1_bestPair 5 := ⟨tbk_1 6 rfl rfl, tbk_5 197 rfl rfl, ne1_X1, ne2_X1, pd_22, Nat.le_of_ble_eq_true rfl, pn_X1⟩
set_option maxRecDepth 20000 in
theorem ml_X11_359 : MLv RX11 359 mX1_bestPair 5 := ⟨mn_X1_bestPair, tbk_5 194 rfl rfl, tbk_5 195 rfl rfl, tbk_5 196 rfl rfl⟩
set_option maxRecDepth 20000 in
theorem mn_X11_bleed : MLn mX11_bleed 2 := ⟨tbk_1 1 rfl rfl, tbk_5 214 rfl rfl, ne1_X11, ne2_X11, pd_9, Nat.le_of_ble_eq_true rfl, pn_X11⟩
set_option maxRecDepth 20000 in
theorem ml_X11_366 : MLv RX11 366 mX11_bleed 2 := ⟨mn_X11_bleed, tbk_5 211 rfl rfl, tbk_5 213 rfl rfl, tb_mem 38 rfl rfl⟩
theorem pd_23 : (parseMethodDescriptor "(ILDeadPacks$Truth;I)I").map (fun d => d.parameters.length) = some 3 := by decide +kernel
set_option maxRecDepth 20000 in
theorem mn_X1_shortOf : MLn mX1_shortOf 3 := ⟨tbk_1 6 rfl rfl, tbk_5 233 rfl rfl, ne1_X1, ne2_X1, pd_23, Nat.le_of_ble_eq_true rfl, pn_X1⟩
set_option maxRecDepth 20000 in
theorem ml_X11_369 : MLv RX11 369 mX1_shortOf 3 := ⟨mn_X1_shortOf, tbk_5 230 rfl rfl, tbk_5 231 rfl rfl, tbk_5 232 rfl rfl⟩
theorem pd_24 : (parseMethodDescriptor "(II[I)Z").map (fun d => d.parameters.length) = some 3 := by decide +kernel
set_option maxRecDepth 20000 in
theorem mn_X1_everHad : MLn mX1_everHad 3 := ⟨tbk_1 6 rfl rfl, tbk_6 2 rfl rfl, ne1_X1, ne2_X1, pd_24, Nat.le_of_ble_eq_true rfl, pn_X1⟩
set_option maxRecDepth 20000 in
theorem ml_X11_373 : MLv RX11 373 mX1_everHad 3 := ⟨mn_X1_everHad, tbk_5 239 rfl rfl, tbk_6 0 rfl rfl, tbk_6 1 rfl rfl⟩
theorem pd_25 : (parseMethodDescriptor "(III[I)Z").map (fun d => d.parameters.length) = some 4 := by decide +kernel
set_option maxRecDepth 20000 in
theorem mn_X1_hadOn : MLn mX1_hadOn 4 := ⟨tbk_1 6 rfl rfl, tbk_6 6 rfl rfl, ne1_X1, ne2_X1, pd_25, Nat.le_of_ble_eq_true rfl, pn_X1⟩
set_option maxRecDepth 20000 in
theorem ml_X11_377 : MLv RX11 377 mX1_hadOn 4 := ⟨mn_X1_hadOn, tbk_6 11 rfl rfl, tbk_6 4 rfl rfl, tbk_6 5 rfl rfl⟩
set_option maxRecDepth 20000 in
theorem mn_X10_readFrom : MLn mX10_readFrom 1 := ⟨tbk_1 11 rfl rfl, tbk_6 19 rfl rfl, ne1_X10, ne2_X10, pd_2, Nat.le_of_ble_eq_true rfl, pn_X10⟩
set_option maxRecDepth 20000 in
theorem ml_X11_381 : MLv RX11 381 mX10_readFrom 1 := ⟨mn_X10_readFrom, tbk_6 16 rfl rfl, tbk_6 17 rfl rfl, tbk_6 18 rfl rfl⟩
theorem pd_26 : (parseMethodDescriptor "(LDeadPacks$Welds;)Z").map (fun d => d.parameters.length) = some 1 := by decide +kernel
set_option maxRecDepth 20000 in
theorem mn_X9_findOrder : MLn mX9_findOrder 1 := ⟨tbk_1 12 rfl rfl, tbk_6 57 rfl rfl, ne1_X9, ne2_X9, pd_26, Nat.le_of_ble_eq_true rfl, pn_X9⟩
set_option maxRecDepth 20000 in
theorem ml_X11_383 : MLv RX11 383 mX9_findOrder 1 := ⟨mn_X9_findOrder, tbk_6 54 rfl rfl, tbk_6 55 rfl rfl, tbk_6 56 rfl rfl⟩
theorem pd_27 : (parseMethodDescriptor "(LDeadPacks$Welds;LDeadPacks$Tape;I)I").map (fun d => d.parameters.length) = some 3 := by decide +kernel
set_option maxRecDepth 20000 in
theorem mn_X9_goodSteps : MLn mX9_goodSteps 3 := ⟨tbk_1 12 rfl rfl, tbk_6 105 rfl rfl, ne1_X9, ne2_X9, pd_27, Nat.le_of_ble_eq_true rfl, pn_X9⟩
set_option maxRecDepth 20000 in
theorem ml_X11_391 : MLv RX11 391 mX9_goodSteps 3 := ⟨mn_X9_goodSteps, tbk_6 102 rfl rfl, tbk_6 103 rfl rfl, tbk_6 104 rfl rfl⟩
set_option maxRecDepth 20000 in
theorem mn_X5_copyFrom : MLn mX5_copyFrom 1 := ⟨tbk_1 3 rfl rfl, tbk_6 114 rfl rfl, ne1_X5, ne2_X5, pd_8, Nat.le_of_ble_eq_true rfl, pn_X5⟩
set_option maxRecDepth 20000 in
theorem ml_X11_395 : MLv RX11 395 mX5_copyFrom 1 := ⟨mn_X5_copyFrom, tbk_6 111 rfl rfl, tbk_6 112 rfl rfl, tbk_6 113 rfl rfl⟩
set_option maxRecDepth 20000 in
theorem mn_X11_sortPicked : MLn mX11_sortPicked 1 := ⟨tbk_1 1 rfl rfl, tbk_5 89 rfl rfl, ne1_X11, ne2_X11, pd_1, Nat.le_of_ble_eq_true rfl, pn_X11⟩
set_option maxRecDepth 20000 in
theorem ml_X11_403 : MLv RX11 403 mX11_sortPicked 1 := ⟨mn_X11_sortPicked, tbk_5 86 rfl rfl, tbk_5 88 rfl rfl, tb_mem 32 rfl rfl⟩
set_option maxRecDepth 20000 in
theorem mn_X11_filled : MLn mX11_filled 2 := ⟨tbk_1 1 rfl rfl, tbk_5 218 rfl rfl, ne1_X11, ne2_X11, pd_9, Nat.le_of_ble_eq_true rfl, pn_X11⟩
set_option maxRecDepth 20000 in
theorem ml_X11_406 : MLv RX11 406 mX11_filled 2 := ⟨mn_X11_filled, tbk_5 215 rfl rfl, tbk_5 217 rfl rfl, tb_mem 39 rfl rfl⟩
set_option maxRecDepth 20000 in
theorem mm_X11_409 : MinW RX11 409 := ⟨tbk_5 220 rfl rfl, tbk_4 93 rfl rfl, tbk_1 23 rfl rfl, tbk_4 94 rfl rfl⟩
set_option maxRecDepth 20000 in
theorem mm_X11_414 : MaxW RX11 414 := ⟨tbk_5 221 rfl rfl, tbk_4 96 rfl rfl, tbk_1 23 rfl rfl, tbk_4 97 rfl rfl⟩
set_option maxRecDepth 20000 in
theorem mn_X0_boxNamed : MLn mX0_boxNamed 1 := ⟨tbk_1 4 rfl rfl, tbk_3 231 rfl rfl, ne1_X0, ne2_X0, pd_5, Nat.le_of_ble_eq_true rfl, pn_X0⟩
set_option maxRecDepth 20000 in
theorem ml_X0_36 : MLv RX0 36 mX0_boxNamed 1 := ⟨mn_X0_boxNamed, tbk_3 228 rfl rfl, tbk_3 229 rfl rfl, tbk_3 230 rfl rfl⟩
set_option maxRecDepth 20000 in
theorem cw_X0_40 : CopyW RX0 40 := ⟨tbk_3 140 rfl rfl, tbk_3 142 rfl rfl, tbk_3 141 rfl rfl, tbk_1 14 rfl rfl⟩
set_option maxRecDepth 20000 in
theorem mn_X7_begin : MLn mX7_begin 1 := ⟨tbk_1 2 rfl rfl, tbk_3 146 rfl rfl, ne1_X7, ne2_X7, pd_1, Nat.le_of_ble_eq_true rfl, pn_X7⟩
set_option maxRecDepth 20000 in
theorem ml_X0_52 : MLv RX0 52 mX7_begin 1 := ⟨mn_X7_begin, tbk_3 143 rfl rfl, tbk_3 144 rfl rfl, tbk_3 145 rfl rfl⟩
set_option maxRecDepth 20000 in
theorem mn_X0_readLine : MLn mX0_readLine 1 := ⟨tbk_1 4 rfl rfl, tbk_3 210 rfl rfl, ne1_X0, ne2_X0, pd_2, Nat.le_of_ble_eq_true rfl, pn_X0⟩
set_option maxRecDepth 20000 in
theorem ml_X0_61 : MLv RX0 61 mX0_readLine 1 := ⟨mn_X0_readLine, tbk_3 207 rfl rfl, tbk_3 209 rfl rfl, tb_mem 1 rfl rfl⟩
set_option maxRecDepth 20000 in
theorem mn_X7_refuse : MLn mX7_refuse 1 := ⟨tbk_1 2 rfl rfl, tbk_3 214 rfl rfl, ne1_X7, ne2_X7, pd_4, Nat.le_of_ble_eq_true rfl, pn_X7⟩
set_option maxRecDepth 20000 in
theorem ml_X0_68 : MLv RX0 68 mX7_refuse 1 := ⟨mn_X7_refuse, tbk_3 211 rfl rfl, tbk_3 212 rfl rfl, tbk_3 213 rfl rfl⟩
theorem pd_28 : (parseMethodDescriptor "(LDeadPacks$Tape;I)Z").map (fun d => d.parameters.length) = some 2 := by decide +kernel
set_option maxRecDepth 20000 in
theorem mn_X0_readName : MLn mX0_readName 2 := ⟨tbk_1 4 rfl rfl, tbk_3 218 rfl rfl, ne1_X0, ne2_X0, pd_28, Nat.le_of_ble_eq_true rfl, pn_X0⟩
set_option maxRecDepth 20000 in
theorem ml_X0_72 : MLv RX0 72 mX0_readName 2 := ⟨mn_X0_readName, tbk_3 215 rfl rfl, tbk_3 217 rfl rfl, tb_mem 2 rfl rfl⟩
set_option maxRecDepth 20000 in
theorem mn_X0_readLaw : MLn mX0_readLaw 2 := ⟨tbk_1 4 rfl rfl, tbk_3 235 rfl rfl, ne1_X0, ne2_X0, pd_28, Nat.le_of_ble_eq_true rfl, pn_X0⟩
set_option maxRecDepth 20000 in
theorem ml_X0_76 : MLv RX0 76 mX0_readLaw 2 := ⟨mn_X0_readLaw, tbk_3 232 rfl rfl, tbk_3 234 rfl rfl, tb_mem 4 rfl rfl⟩
set_option maxRecDepth 20000 in
theorem mn_X7_takeSign : MLn mX7_takeSign 1 := ⟨tbk_1 2 rfl rfl, tbk_4 12 rfl rfl, ne1_X7, ne2_X7, pd_4, Nat.le_of_ble_eq_true rfl, pn_X7⟩
set_option maxRecDepth 20000 in
theorem ml_X0_79 : MLv RX0 79 mX7_takeSign 1 := ⟨mn_X7_takeSign, tbk_4 9 rfl rfl, tbk_4 10 rfl rfl, tbk_4 11 rfl rfl⟩
set_option maxRecDepth 20000 in
theorem mn_X7_step : MLn mX7_step 0 := ⟨tbk_1 2 rfl rfl, tbk_3 150 rfl rfl, ne1_X7, ne2_X7, pd_0, Nat.le_of_ble_eq_true rfl, pn_X7⟩
set_option maxRecDepth 20000 in
theorem ml_X0_82 : MLv RX0 82 mX7_step 0 := ⟨mn_X7_step, tbk_3 219 rfl rfl, tbk_3 148 rfl rfl, tbk_3 149 rfl rfl⟩
theorem pd_29 : (parseMethodDescriptor "()Z").map (fun d => d.parameters.length) = some 0 := by decide +kernel
set_option maxRecDepth 20000 in
theorem mn_X7_isName : MLn mX7_isName 0 := ⟨tbk_1 2 rfl rfl, tbk_3 223 rfl rfl, ne1_X7, ne2_X7, pd_29, Nat.le_of_ble_eq_true rfl, pn_X7⟩
set_option maxRecDepth 20000 in
theorem ml_X0_85 : MLv RX0 85 mX7_isName 0 := ⟨mn_X7_isName, tbk_3 220 rfl rfl, tbk_3 221 rfl rfl, tbk_3 222 rfl rfl⟩
set_option maxRecDepth 20000 in
theorem mn_X0_isTold : MLn mX0_isTold 1 := ⟨tbk_1 4 rfl rfl, tbk_3 227 rfl rfl, ne1_X0, ne2_X0, pd_4, Nat.le_of_ble_eq_true rfl, pn_X0⟩
set_option maxRecDepth 20000 in
theorem ml_X0_92 : MLv RX0 92 mX0_isTold 1 := ⟨mn_X0_isTold, tbk_3 224 rfl rfl, tbk_3 226 rfl rfl, tb_mem 3 rfl rfl⟩
set_option maxRecDepth 20000 in
theorem mn_X0_readValue : MLn mX0_readValue 2 := ⟨tbk_1 4 rfl rfl, tbk_3 239 rfl rfl, ne1_X0, ne2_X0, pd_28, Nat.le_of_ble_eq_true rfl, pn_X0⟩
set_option maxRecDepth 20000 in
theorem ml_X0_95 : MLv RX0 95 mX0_readValue 2 := ⟨mn_X0_readValue, tbk_3 236 rfl rfl, tbk_3 238 rfl rfl, tb_mem 5 rfl rfl⟩
set_option maxRecDepth 20000 in
theorem mn_X7_isNumber : MLn mX7_isNumber 2 := ⟨tbk_1 2 rfl rfl, tbk_4 7 rfl rfl, ne1_X7, ne2_X7, pd_14, Nat.le_of_ble_eq_true rfl, pn_X7⟩
set_option maxRecDepth 20000 in
theorem ml_X0_104 : MLv RX0 104 mX7_isNumber 2 := ⟨mn_X7_isNumber, tbk_4 4 rfl rfl, tbk_4 5 rfl rfl, tbk_4 6 rfl rfl⟩
set_option maxRecDepth 20000 in
theorem cw_X1_52 : CopyW RX1 52 := ⟨tbk_6 120 rfl rfl, tbk_3 142 rfl rfl, tbk_3 141 rfl rfl, tbk_1 14 rfl rfl⟩
set_option maxRecDepth 20000 in
theorem mn_X1_placeOf : MLn mX1_placeOf 2 := ⟨tbk_1 6 rfl rfl, tbk_5 189 rfl rfl, ne1_X1, ne2_X1, pd_9, Nat.le_of_ble_eq_true rfl, pn_X1⟩
set_option maxRecDepth 20000 in
theorem ml_X1_58 : MLv RX1 58 mX1_placeOf 2 := ⟨mn_X1_placeOf, tbk_5 186 rfl rfl, tbk_5 188 rfl rfl, tb_mem 36 rfl rfl⟩
set_option maxRecDepth 20000 in
theorem ml_X1_62 : MLv RX1 62 mX1_cellAt 2 := ⟨mn_X1_cellAt, tbk_5 159 rfl rfl, tbk_5 134 rfl rfl, tbk_5 135 rfl rfl⟩
set_option maxRecDepth 20000 in
theorem ml_X1_65 : MLsN RX1 65 mX11_cut 2 := ⟨mn_X11_cut, ⟨_, List.mem_of_getElem? (i := 1236) (rfl : lw_tbl[1236]? = some (Cond.methodLinkNest RX1 65 yX11_cut "DeadPacks"))⟩, tbk_4 99 rfl rfl⟩
set_option maxRecDepth 20000 in
theorem mn_X1_rowSize : MLn mX1_rowSize 1 := ⟨tbk_1 6 rfl rfl, tbk_5 157 rfl rfl, ne1_X1, ne2_X1, pd_5, Nat.le_of_ble_eq_true rfl, pn_X1⟩
set_option maxRecDepth 20000 in
theorem ml_X1_68 : MLv RX1 68 mX1_rowSize 1 := ⟨mn_X1_rowSize, tbk_5 154 rfl rfl, tbk_5 156 rfl rfl, tb_mem 35 rfl rfl⟩
set_option maxRecDepth 20000 in
theorem ml_X1_77 : MLv RX1 77 mX8_flowOf 1 := ⟨mn_X8_flowOf, tbk_5 164 rfl rfl, tbk_4 224 rfl rfl, tbk_4 225 rfl rfl⟩
set_option maxRecDepth 20000 in
theorem ml_X1_80 : MLv RX1 80 mX1_holdOf 3 := ⟨mn_X1_holdOf, tbk_5 150 rfl rfl, tbk_5 151 rfl rfl, tbk_5 152 rfl rfl⟩
set_option maxRecDepth 20000 in
theorem ml_X1_84 : MLv RX1 84 mX1_flowOf 3 := ⟨mn_X1_flowOf, tbk_5 160 rfl rfl, tbk_5 161 rfl rfl, tbk_5 162 rfl rfl⟩
theorem pd_30 : (parseMethodDescriptor "(IILDeadPacks$House;)I").map (fun d => d.parameters.length) = some 3 := by decide +kernel
set_option maxRecDepth 20000 in
theorem mn_X1_cyclesBy : MLn mX1_cyclesBy 3 := ⟨tbk_1 6 rfl rfl, tbk_5 167 rfl rfl, ne1_X1, ne2_X1, pd_30, Nat.le_of_ble_eq_true rfl, pn_X1⟩
set_option maxRecDepth 20000 in
theorem ml_X1_86 : MLs RX1 86 mX1_cyclesBy 3 := ⟨mn_X1_cyclesBy, tbk_5 165 rfl rfl, tbk_5 166 rfl rfl⟩
set_option maxRecDepth 20000 in
theorem ml_X1_104 : MLv RX1 104 mX1_cyclesOf 4 := ⟨mn_X1_cyclesOf, tbk_5 146 rfl rfl, tbk_5 147 rfl rfl, tbk_5 148 rfl rfl⟩
set_option maxRecDepth 20000 in
theorem mn_X1_leastBut : MLn mX1_leastBut 2 := ⟨tbk_1 6 rfl rfl, tbk_5 201 rfl rfl, ne1_X1, ne2_X1, pd_9, Nat.le_of_ble_eq_true rfl, pn_X1⟩
set_option maxRecDepth 20000 in
theorem ml_X1_111 : MLv RX1 111 mX1_leastBut 2 := ⟨mn_X1_leastBut, tbk_5 198 rfl rfl, tbk_5 200 rfl rfl, tb_mem 37 rfl rfl⟩
set_option maxRecDepth 20000 in
theorem mm_X1_114 : MinW RX1 114 := ⟨tbk_5 202 rfl rfl, tbk_4 93 rfl rfl, tbk_1 23 rfl rfl, tbk_4 94 rfl rfl⟩
set_option maxRecDepth 20000 in
theorem ml_X1_123 : MLv RX1 123 mX1_hadOn 4 := ⟨mn_X1_hadOn, tbk_6 3 rfl rfl, tbk_6 4 rfl rfl, tbk_6 5 rfl rfl⟩
theorem pd_31 : (parseMethodDescriptor "(III)I").map (fun d => d.parameters.length) = some 3 := by decide +kernel
set_option maxRecDepth 20000 in
theorem mn_X1_cellOn : MLn mX1_cellOn 3 := ⟨tbk_1 6 rfl rfl, tbk_6 10 rfl rfl, ne1_X1, ne2_X1, pd_31, Nat.le_of_ble_eq_true rfl, pn_X1⟩
set_option maxRecDepth 20000 in
theorem ml_X1_127 : MLv RX1 127 mX1_cellOn 3 := ⟨mn_X1_cellOn, tbk_6 7 rfl rfl, tbk_6 9 rfl rfl, tb_mem 40 rfl rfl⟩
set_option maxRecDepth 20000 in
theorem ml_X2_55 : MLsN RX2 55 mX11_cut 2 := ⟨mn_X11_cut, ⟨_, List.mem_of_getElem? (i := 1060) (rfl : lw_tbl[1060]? = some (Cond.methodLinkNest RX2 55 yX11_cut "DeadPacks"))⟩, tbk_4 99 rfl rfl⟩
theorem pd_32 : (parseMethodDescriptor "([I[I[I)V").map (fun d => d.parameters.length) = some 3 := by decide +kernel
set_option maxRecDepth 20000 in
theorem mn_X2_addUp : MLn mX2_addUp 3 := ⟨tbk_1 8 rfl rfl, tbk_4 239 rfl rfl, ne1_X2, ne2_X2, pd_32, Nat.le_of_ble_eq_true rfl, pn_X2⟩
set_option maxRecDepth 20000 in
theorem ml_X2_71 : MLv RX2 71 mX2_addUp 3 := ⟨mn_X2_addUp, tbk_4 236 rfl rfl, tbk_4 238 rfl rfl, tb_mem 19 rfl rfl⟩
set_option maxRecDepth 20000 in
theorem mn_X2_place : MLn mX2_place 2 := ⟨tbk_1 8 rfl rfl, tbk_5 3 rfl rfl, ne1_X2, ne2_X2, pd_15, Nat.le_of_ble_eq_true rfl, pn_X2⟩
set_option maxRecDepth 20000 in
theorem ml_X2_75 : MLv RX2 75 mX2_place 2 := ⟨mn_X2_place, tbk_5 0 rfl rfl, tbk_5 2 rfl rfl, tb_mem 20 rfl rfl⟩
set_option maxRecDepth 20000 in
theorem mn_X2_take : MLn mX2_take 0 := ⟨tbk_1 8 rfl rfl, tbk_5 7 rfl rfl, ne1_X2, ne2_X2, pd_0, Nat.le_of_ble_eq_true rfl, pn_X2⟩
set_option maxRecDepth 20000 in
theorem ml_X2_79 : MLv RX2 79 mX2_take 0 := ⟨mn_X2_take, tbk_5 4 rfl rfl, tbk_5 6 rfl rfl, tb_mem 21 rfl rfl⟩
set_option maxRecDepth 20000 in
theorem mn_X2_put : MLn mX2_put 3 := ⟨tbk_1 8 rfl rfl, tbk_5 14 rfl rfl, ne1_X2, ne2_X2, pd_16, Nat.le_of_ble_eq_true rfl, pn_X2⟩
set_option maxRecDepth 20000 in
theorem ml_X2_82 : MLv RX2 82 mX2_put 3 := ⟨mn_X2_put, tbk_5 11 rfl rfl, tbk_5 13 rfl rfl, tb_mem 22 rfl rfl⟩
set_option maxRecDepth 20000 in
theorem mn_X2_hopeful : MLn mX2_hopeful 1 := ⟨tbk_1 8 rfl rfl, tbk_5 18 rfl rfl, ne1_X2, ne2_X2, pd_4, Nat.le_of_ble_eq_true rfl, pn_X2⟩
set_option maxRecDepth 20000 in
theorem ml_X2_86 : MLv RX2 86 mX2_hopeful 1 := ⟨mn_X2_hopeful, tbk_5 15 rfl rfl, tbk_5 17 rfl rfl, tb_mem 23 rfl rfl⟩
set_option maxRecDepth 20000 in
theorem mm_X2_90 : MinW RX2 90 := ⟨tbk_5 8 rfl rfl, tbk_4 93 rfl rfl, tbk_1 23 rfl rfl, tbk_4 94 rfl rfl⟩
set_option maxRecDepth 20000 in
theorem mm_X2_95 : MaxW RX2 95 := ⟨tbk_5 9 rfl rfl, tbk_4 96 rfl rfl, tbk_1 23 rfl rfl, tbk_4 97 rfl rfl⟩
set_option maxRecDepth 20000 in
theorem mn_X2_leastUnlike : MLn mX2_leastUnlike 1 := ⟨tbk_1 8 rfl rfl, tbk_5 22 rfl rfl, ne1_X2, ne2_X2, pd_5, Nat.le_of_ble_eq_true rfl, pn_X2⟩
set_option maxRecDepth 20000 in
theorem ml_X2_98 : MLv RX2 98 mX2_leastUnlike 1 := ⟨mn_X2_leastUnlike, tbk_5 19 rfl rfl, tbk_5 21 rfl rfl, tb_mem 24 rfl rfl⟩
set_option maxRecDepth 20000 in
theorem cw_X2_102 : CopyW RX2 102 := ⟨tbk_5 10 rfl rfl, tbk_3 142 rfl rfl, tbk_3 141 rfl rfl, tbk_1 14 rfl rfl⟩
set_option maxRecDepth 20000 in
theorem cw_X3_15 : CopyW RX3 15 := ⟨tbk_4 184 rfl rfl, tbk_3 142 rfl rfl, tbk_3 141 rfl rfl, tbk_1 14 rfl rfl⟩
set_option maxRecDepth 20000 in
theorem ml_X3_28 : MLv RX3 28 mX7_begin 1 := ⟨mn_X7_begin, tbk_4 150 rfl rfl, tbk_3 144 rfl rfl, tbk_3 145 rfl rfl⟩
theorem pd_33 : (parseMethodDescriptor "(LDeadPacks$Tape;LDeadPacks$House;I)Z").map (fun d => d.parameters.length) = some 3 := by decide +kernel
set_option maxRecDepth 20000 in
theorem mn_X3_readCond : MLn mX3_readCond 3 := ⟨tbk_1 5 rfl rfl, tbk_4 154 rfl rfl, ne1_X3, ne2_X3, pd_33, Nat.le_of_ble_eq_true rfl, pn_X3⟩
set_option maxRecDepth 20000 in
theorem ml_X3_34 : MLv RX3 34 mX3_readCond 3 := ⟨mn_X3_readCond, tbk_4 151 rfl rfl, tbk_4 153 rfl rfl, tb_mem 12 rfl rfl⟩
set_option maxRecDepth 20000 in
theorem ml_X3_41 : MLv RX3 41 mX7_refuse 1 := ⟨mn_X7_refuse, tbk_4 163 rfl rfl, tbk_3 212 rfl rfl, tbk_3 213 rfl rfl⟩
set_option maxRecDepth 20000 in
theorem mn_X3_readAll : MLn mX3_readAll 3 := ⟨tbk_1 5 rfl rfl, tbk_4 158 rfl rfl, ne1_X3, ne2_X3, pd_33, Nat.le_of_ble_eq_true rfl, pn_X3⟩
set_option maxRecDepth 20000 in
theorem ml_X3_45 : MLv RX3 45 mX3_readAll 3 := ⟨mn_X3_readAll, tbk_4 155 rfl rfl, tbk_4 157 rfl rfl, tb_mem 13 rfl rfl⟩
set_option maxRecDepth 20000 in
theorem ml_X3_51 : MLv RX3 51 mX7_step 0 := ⟨mn_X7_step, tbk_4 164 rfl rfl, tbk_3 148 rfl rfl, tbk_3 149 rfl rfl⟩
set_option maxRecDepth 20000 in
theorem mn_X3_addStep : MLn mX3_addStep 1 := ⟨tbk_1 5 rfl rfl, tbk_4 169 rfl rfl, ne1_X3, ne2_X3, pd_4, Nat.le_of_ble_eq_true rfl, pn_X3⟩
set_option maxRecDepth 20000 in
theorem ml_X3_54 : MLv RX3 54 mX3_addStep 1 := ⟨mn_X3_addStep, tbk_4 166 rfl rfl, tbk_4 168 rfl rfl, tb_mem 15 rfl rfl⟩
set_option maxRecDepth 20000 in
theorem mn_X3_readOne : MLn mX3_readOne 3 := ⟨tbk_1 5 rfl rfl, tbk_4 162 rfl rfl, ne1_X3, ne2_X3, pd_33, Nat.le_of_ble_eq_true rfl, pn_X3⟩
set_option maxRecDepth 20000 in
theorem ml_X3_57 : MLv RX3 57 mX3_readOne 3 := ⟨mn_X3_readOne, tbk_4 159 rfl rfl, tbk_4 161 rfl rfl, tb_mem 14 rfl rfl⟩
set_option maxRecDepth 20000 in
theorem ml_X3_60 : MLv RX3 60 mX7_takeSign 1 := ⟨mn_X7_takeSign, tbk_4 165 rfl rfl, tbk_4 10 rfl rfl, tbk_4 11 rfl rfl⟩
set_option maxRecDepth 20000 in
theorem mn_X3_readBox : MLn mX3_readBox 2 := ⟨tbk_1 5 rfl rfl, tbk_4 173 rfl rfl, ne1_X3, ne2_X3, pd_10, Nat.le_of_ble_eq_true rfl, pn_X3⟩
set_option maxRecDepth 20000 in
theorem ml_X3_63 : MLv RX3 63 mX3_readBox 2 := ⟨mn_X3_readBox, tbk_4 170 rfl rfl, tbk_4 172 rfl rfl, tb_mem 16 rfl rfl⟩
set_option maxRecDepth 20000 in
theorem mn_X3_readSize : MLn mX3_readSize 2 := ⟨tbk_1 5 rfl rfl, tbk_4 179 rfl rfl, ne1_X3, ne2_X3, pd_28, Nat.le_of_ble_eq_true rfl, pn_X3⟩
set_option maxRecDepth 20000 in
theorem ml_X3_67 : MLv RX3 67 mX3_readSize 2 := ⟨mn_X3_readSize, tbk_4 176 rfl rfl, tbk_4 178 rfl rfl, tb_mem 17 rfl rfl⟩
set_option maxRecDepth 20000 in
theorem ml_X3_71 : MLv RX3 71 mX7_isName 0 := ⟨mn_X7_isName, tbk_4 174 rfl rfl, tbk_3 221 rfl rfl, tbk_3 222 rfl rfl⟩
set_option maxRecDepth 20000 in
theorem ml_X3_78 : MLv RX3 78 mX0_boxNamed 1 := ⟨mn_X0_boxNamed, tbk_4 175 rfl rfl, tbk_3 229 rfl rfl, tbk_3 230 rfl rfl⟩
theorem pd_34 : (parseMethodDescriptor "(ILDeadPacks$Stock;LDeadPacks$Truth;I)Z").map (fun d => d.parameters.length) = some 4 := by decide +kernel
set_option maxRecDepth 20000 in
theorem mn_X3_holds : MLn mX3_holds 4 := ⟨tbk_1 5 rfl rfl, tbk_4 195 rfl rfl, ne1_X3, ne2_X3, pd_34, Nat.le_of_ble_eq_true rfl, pn_X3⟩
set_option maxRecDepth 20000 in
theorem ml_X3_84 : MLs RX3 84 mX3_holds 4 := ⟨mn_X3_holds, tbk_4 193 rfl rfl, tbk_4 194 rfl rfl⟩
set_option maxRecDepth 20000 in
theorem ml_X3_93 : MLv RX3 93 mX5_liesOf 1 := ⟨mn_X5_liesOf, tbk_4 196 rfl rfl, tbk_4 126 rfl rfl, tbk_4 127 rfl rfl⟩
set_option maxRecDepth 20000 in
theorem mn_X3_compares : MLn mX3_compares 3 := ⟨tbk_1 5 rfl rfl, tbk_4 199 rfl rfl, ne1_X3, ne2_X3, pd_6, Nat.le_of_ble_eq_true rfl, pn_X3⟩
set_option maxRecDepth 20000 in
theorem ml_X3_105 : MLs RX3 105 mX3_compares 3 := ⟨mn_X3_compares, tbk_4 197 rfl rfl, tbk_4 198 rfl rfl⟩
set_option maxRecDepth 20000 in
theorem ml_X3_109 : MLv RX3 109 mX8_has 1 := ⟨mn_X8_has, tbk_4 200 rfl rfl, tbk_4 89 rfl rfl, tbk_4 90 rfl rfl⟩
set_option maxRecDepth 20000 in
theorem ml_X3_114 : MLv RX3 114 mX8_toldOf 2 := ⟨mn_X8_toldOf, tbk_4 201 rfl rfl, tbk_4 118 rfl rfl, tbk_4 119 rfl rfl⟩
set_option maxRecDepth 20000 in
theorem ml_X4_29 : MLsN RX4 29 mX11_cut 2 := ⟨mn_X11_cut, ⟨_, List.mem_of_getElem? (i := 1180) (rfl : lw_tbl[1180]? = some (Cond.methodLinkNest RX4 29 yX11_cut "DeadPacks"))⟩, tbk_4 99 rfl rfl⟩
set_option maxRecDepth 20000 in
theorem mn_X4_place : MLn mX4_place 2 := ⟨tbk_1 10 rfl rfl, tbk_5 106 rfl rfl, ne1_X4, ne2_X4, pd_15, Nat.le_of_ble_eq_true rfl, pn_X4⟩
set_option maxRecDepth 20000 in
theorem ml_X4_41 : MLv RX4 41 mX4_place 2 := ⟨mn_X4_place, tbk_5 103 rfl rfl, tbk_5 105 rfl rfl, tb_mem 33 rfl rfl⟩
set_option maxRecDepth 20000 in
theorem mn_X4_take : MLn mX4_take 0 := ⟨tbk_1 10 rfl rfl, tbk_5 110 rfl rfl, ne1_X4, ne2_X4, pd_0, Nat.le_of_ble_eq_true rfl, pn_X4⟩
set_option maxRecDepth 20000 in
theorem ml_X4_45 : MLv RX4 45 mX4_take 0 := ⟨mn_X4_take, tbk_5 107 rfl rfl, tbk_5 109 rfl rfl, tb_mem 34 rfl rfl⟩
set_option maxRecDepth 20000 in
theorem mm_X4_48 : MaxW RX4 48 := ⟨tbk_5 111 rfl rfl, tbk_4 96 rfl rfl, tbk_1 23 rfl rfl, tbk_4 97 rfl rfl⟩
set_option maxRecDepth 20000 in
theorem cw_X4_53 : CopyW RX4 53 := ⟨tbk_5 112 rfl rfl, tbk_3 142 rfl rfl, tbk_3 141 rfl rfl, tbk_1 14 rfl rfl⟩
set_option maxRecDepth 20000 in
theorem ml_X5_11 : MLiN RX5 11 mX0_init 0 := ⟨mn_X0_init, ⟨_, List.mem_of_getElem? (i := 208) (rfl : lw_tbl[208]? = some (Cond.methodLinkNest RX5 11 yX0_init "DeadPacks"))⟩, tbk_1 91 rfl rfl, rfl, rfl⟩
set_option maxRecDepth 20000 in
theorem ml_X5_20 : MLiN RX5 20 mX3_init 0 := ⟨mn_X3_init, ⟨_, List.mem_of_getElem? (i := 253) (rfl : lw_tbl[253]? = some (Cond.methodLinkNest RX5 20 yX3_init "DeadPacks"))⟩, tbk_1 136 rfl rfl, rfl, rfl⟩
set_option maxRecDepth 20000 in
theorem mn_X1_init : MLn mX1_init 0 := ⟨tbk_1 6 rfl rfl, tbk_1 156 rfl rfl, ne1_X1, ne2_X1, pd_0, Nat.le_of_ble_eq_true rfl, pn_X1⟩
set_option maxRecDepth 20000 in
theorem ml_X5_27 : MLiN RX5 27 mX1_init 0 := ⟨mn_X1_init, ⟨_, List.mem_of_getElem? (i := 272) (rfl : lw_tbl[272]? = some (Cond.methodLinkNest RX5 27 yX1_init "DeadPacks"))⟩, tbk_1 155 rfl rfl, rfl, rfl⟩
set_option maxRecDepth 20000 in
theorem mn_X0_copyFrom : MLn mX0_copyFrom 1 := ⟨tbk_1 4 rfl rfl, tbk_4 20 rfl rfl, ne1_X0, ne2_X0, pd_3, Nat.le_of_ble_eq_true rfl, pn_X0⟩
set_option maxRecDepth 20000 in
theorem ml_X5_66 : MLv RX5 66 mX0_copyFrom 1 := ⟨mn_X0_copyFrom, tbk_4 17 rfl rfl, tbk_4 18 rfl rfl, tbk_4 19 rfl rfl⟩
set_option maxRecDepth 20000 in
theorem mn_X1_clear : MLn mX1_clear 0 := ⟨tbk_1 6 rfl rfl, tbk_4 24 rfl rfl, ne1_X1, ne2_X1, pd_0, Nat.le_of_ble_eq_true rfl, pn_X1⟩
set_option maxRecDepth 20000 in
theorem ml_X5_77 : MLv RX5 77 mX1_clear 0 := ⟨mn_X1_clear, tbk_4 21 rfl rfl, tbk_4 22 rfl rfl, tbk_4 23 rfl rfl⟩
set_option maxRecDepth 20000 in
theorem ml_X5_89 : MLv RX5 89 mX3_copyFrom 1 := ⟨mn_X3_copyFrom, tbk_6 115 rfl rfl, tbk_4 181 rfl rfl, tbk_4 182 rfl rfl⟩
theorem pd_35 : (parseMethodDescriptor "(LDeadPacks$Packs;)V").map (fun d => d.parameters.length) = some 1 := by decide +kernel
set_option maxRecDepth 20000 in
theorem mn_X1_copyFrom : MLn mX1_copyFrom 1 := ⟨tbk_1 6 rfl rfl, tbk_6 119 rfl rfl, ne1_X1, ne2_X1, pd_35, Nat.le_of_ble_eq_true rfl, pn_X1⟩
set_option maxRecDepth 20000 in
theorem ml_X5_92 : MLv RX5 92 mX1_copyFrom 1 := ⟨mn_X1_copyFrom, tbk_6 116 rfl rfl, tbk_6 117 rfl rfl, tbk_6 118 rfl rfl⟩
set_option maxRecDepth 20000 in
theorem cw_X5_95 : CopyW RX5 95 := ⟨tbk_6 121 rfl rfl, tbk_3 142 rfl rfl, tbk_3 141 rfl rfl, tbk_1 14 rfl rfl⟩
set_option maxRecDepth 20000 in
theorem ml_X5_107 : MLv RX5 107 mX5_fallenBy 1 := ⟨mn_X5_fallenBy, tbk_4 129 rfl rfl, tbk_4 130 rfl rfl, tbk_4 131 rfl rfl⟩
set_option maxRecDepth 20000 in
theorem ml_X5_111 : MLv RX5 111 mX5_daysBetween 1 := ⟨mn_X5_daysBetween, tbk_4 133 rfl rfl, tbk_4 134 rfl rfl, tbk_4 135 rfl rfl⟩
set_option maxRecDepth 20000 in
theorem mn_X6_deal : MLn mX6_deal 0 := ⟨tbk_1 9 rfl rfl, tbk_5 46 rfl rfl, ne1_X6, ne2_X6, pd_0, Nat.le_of_ble_eq_true rfl, pn_X6⟩
set_option maxRecDepth 20000 in
theorem ml_X6_32 : MLv RX6 32 mX6_deal 0 := ⟨mn_X6_deal, tbk_5 43 rfl rfl, tbk_5 45 rfl rfl, tb_mem 25 rfl rfl⟩
set_option maxRecDepth 20000 in
theorem mn_X6_measure : MLn mX6_measure 0 := ⟨tbk_1 9 rfl rfl, tbk_5 51 rfl rfl, ne1_X6, ne2_X6, pd_0, Nat.le_of_ble_eq_true rfl, pn_X6⟩
set_option maxRecDepth 20000 in
theorem ml_X6_35 : MLv RX6 35 mX6_measure 0 := ⟨mn_X6_measure, tbk_5 48 rfl rfl, tbk_5 50 rfl rfl, tb_mem 26 rfl rfl⟩
set_option maxRecDepth 20000 in
theorem mn_X6_exchangeFirst : MLn mX6_exchangeFirst 0 := ⟨tbk_1 9 rfl rfl, tbk_5 57 rfl rfl, ne1_X6, ne2_X6, pd_29, Nat.le_of_ble_eq_true rfl, pn_X6⟩
set_option maxRecDepth 20000 in
theorem ml_X6_38 : MLv RX6 38 mX6_exchangeFirst 0 := ⟨mn_X6_exchangeFirst, tbk_5 54 rfl rfl, tbk_5 56 rfl rfl, tb_mem 27 rfl rfl⟩
set_option maxRecDepth 20000 in
theorem ml_X6_42 : MLsN RX6 42 mX11_cut 2 := ⟨mn_X11_cut, ⟨_, List.mem_of_getElem? (i := 1125) (rfl : lw_tbl[1125]? = some (Cond.methodLinkNest RX6 42 yX11_cut "DeadPacks"))⟩, tbk_4 99 rfl rfl⟩
set_option maxRecDepth 20000 in
theorem mm_X6_57 : MinW RX6 57 := ⟨tbk_5 52 rfl rfl, tbk_4 93 rfl rfl, tbk_1 23 rfl rfl, tbk_4 94 rfl rfl⟩
set_option maxRecDepth 20000 in
theorem mm_X6_62 : MaxW RX6 62 := ⟨tbk_5 53 rfl rfl, tbk_4 96 rfl rfl, tbk_1 23 rfl rfl, tbk_4 97 rfl rfl⟩
set_option maxRecDepth 20000 in
theorem mn_X6_helps : MLn mX6_helps 3 := ⟨tbk_1 9 rfl rfl, tbk_5 61 rfl rfl, ne1_X6, ne2_X6, pd_6, Nat.le_of_ble_eq_true rfl, pn_X6⟩
set_option maxRecDepth 20000 in
theorem ml_X6_65 : MLv RX6 65 mX6_helps 3 := ⟨mn_X6_helps, tbk_5 58 rfl rfl, tbk_5 60 rfl rfl, tb_mem 28 rfl rfl⟩
set_option maxRecDepth 20000 in
theorem mn_X6_exchange : MLn mX6_exchange 2 := ⟨tbk_1 9 rfl rfl, tbk_5 65 rfl rfl, ne1_X6, ne2_X6, pd_15, Nat.le_of_ble_eq_true rfl, pn_X6⟩
set_option maxRecDepth 20000 in
theorem ml_X6_69 : MLv RX6 69 mX6_exchange 2 := ⟨mn_X6_exchange, tbk_5 62 rfl rfl, tbk_5 64 rfl rfl, tb_mem 29 rfl rfl⟩
set_option maxRecDepth 20000 in
theorem ml_X7_34 : MLv RX7 34 mX7_step 0 := ⟨mn_X7_step, tbk_3 147 rfl rfl, tbk_3 148 rfl rfl, tbk_3 149 rfl rfl⟩
set_option maxRecDepth 20000 in
theorem ml_X7_43 : MLv RX7 43 mX7_refuse 1 := ⟨mn_X7_refuse, tbk_4 8 rfl rfl, tbk_3 212 rfl rfl, tbk_3 213 rfl rfl⟩
set_option maxRecDepth 20000 in
theorem mn_X7_stepOver : MLn mX7_stepOver 0 := ⟨tbk_1 2 rfl rfl, tbk_3 154 rfl rfl, ne1_X7, ne2_X7, pd_0, Nat.le_of_ble_eq_true rfl, pn_X7⟩
set_option maxRecDepth 20000 in
theorem ml_X7_50 : MLv RX7 50 mX7_stepOver 0 := ⟨mn_X7_stepOver, tbk_3 151 rfl rfl, tbk_3 153 rfl rfl, tb_mem 0 rfl rfl⟩
set_option maxRecDepth 20000 in
theorem mn_X7_wordOf : MLn mX7_wordOf 1 := ⟨tbk_1 2 rfl rfl, tbk_3 157 rfl rfl, ne1_X7, ne2_X7, pd_5, Nat.le_of_ble_eq_true rfl, pn_X7⟩
set_option maxRecDepth 20000 in
theorem ml_X7_53 : MLs RX7 53 mX7_wordOf 1 := ⟨mn_X7_wordOf, tbk_3 155 rfl rfl, tbk_3 156 rfl rfl⟩
set_option maxRecDepth 20000 in
theorem ml_X8_48 : MLsN RX8 48 mX11_cut 2 := ⟨mn_X11_cut, ⟨_, List.mem_of_getElem? (i := 936) (rfl : lw_tbl[936]? = some (Cond.methodLinkNest RX8 48 yX11_cut "DeadPacks"))⟩, tbk_4 99 rfl rfl⟩
set_option maxRecDepth 20000 in
theorem ml_X8_52 : MLv RX8 52 mX8_has 1 := ⟨mn_X8_has, tbk_4 88 rfl rfl, tbk_4 89 rfl rfl, tbk_4 90 rfl rfl⟩
set_option maxRecDepth 20000 in
theorem ml_X8_56 : MLv RX8 56 mX8_toldOf 2 := ⟨mn_X8_toldOf, tbk_4 117 rfl rfl, tbk_4 118 rfl rfl, tbk_4 119 rfl rfl⟩
set_option maxRecDepth 20000 in
theorem mn_X8_findFirst : MLn mX8_findFirst 1 := ⟨tbk_1 7 rfl rfl, tbk_4 79 rfl rfl, ne1_X8, ne2_X8, pd_8, Nat.le_of_ble_eq_true rfl, pn_X8⟩
set_option maxRecDepth 20000 in
theorem ml_X8_71 : MLv RX8 71 mX8_findFirst 1 := ⟨mn_X8_findFirst, tbk_4 76 rfl rfl, tbk_4 78 rfl rfl, tb_mem 6 rfl rfl⟩
set_option maxRecDepth 20000 in
theorem mn_X8_weigh : MLn mX8_weigh 1 := ⟨tbk_1 7 rfl rfl, tbk_4 83 rfl rfl, ne1_X8, ne2_X8, pd_8, Nat.le_of_ble_eq_true rfl, pn_X8⟩
set_option maxRecDepth 20000 in
theorem ml_X8_75 : MLv RX8 75 mX8_weigh 1 := ⟨mn_X8_weigh, tbk_4 80 rfl rfl, tbk_4 82 rfl rfl, tb_mem 7 rfl rfl⟩
theorem pd_36 : (parseMethodDescriptor "(LDeadPacks$Stock;)I").map (fun d => d.parameters.length) = some 1 := by decide +kernel
set_option maxRecDepth 20000 in
theorem mn_X8_nextBench : MLn mX8_nextBench 1 := ⟨tbk_1 7 rfl rfl, tbk_4 104 rfl rfl, ne1_X8, ne2_X8, pd_36, Nat.le_of_ble_eq_true rfl, pn_X8⟩
set_option maxRecDepth 20000 in
theorem ml_X8_78 : MLv RX8 78 mX8_nextBench 1 := ⟨mn_X8_nextBench, tbk_4 101 rfl rfl, tbk_4 103 rfl rfl, tb_mem 9 rfl rfl⟩
theorem pd_37 : (parseMethodDescriptor "(I[I[II)I").map (fun d => d.parameters.length) = some 4 := by decide +kernel
set_option maxRecDepth 20000 in
theorem mn_X8_middle : MLn mX8_middle 4 := ⟨tbk_1 7 rfl rfl, tbk_4 112 rfl rfl, ne1_X8, ne2_X8, pd_37, Nat.le_of_ble_eq_true rfl, pn_X8⟩
set_option maxRecDepth 20000 in
theorem ml_X8_88 : MLv RX8 88 mX8_middle 4 := ⟨mn_X8_middle, tbk_4 109 rfl rfl, tbk_4 111 rfl rfl, tb_mem 11 rfl rfl⟩
set_option maxRecDepth 20000 in
theorem mn_X8_shares : MLn mX8_shares 2 := ⟨tbk_1 7 rfl rfl, tbk_4 108 rfl rfl, ne1_X8, ne2_X8, pd_14, Nat.le_of_ble_eq_true rfl, pn_X8⟩
set_option maxRecDepth 20000 in
theorem ml_X8_104 : MLv RX8 104 mX8_shares 2 := ⟨mn_X8_shares, tbk_4 105 rfl rfl, tbk_4 107 rfl rfl, tb_mem 10 rfl rfl⟩
set_option maxRecDepth 20000 in
theorem mn_X8_addTo : MLn mX8_addTo 2 := ⟨tbk_1 7 rfl rfl, tbk_4 87 rfl rfl, ne1_X8, ne2_X8, pd_15, Nat.le_of_ble_eq_true rfl, pn_X8⟩
set_option maxRecDepth 20000 in
theorem ml_X8_108 : MLv RX8 108 mX8_addTo 2 := ⟨mn_X8_addTo, tbk_4 84 rfl rfl, tbk_4 86 rfl rfl, tb_mem 8 rfl rfl⟩
set_option maxRecDepth 20000 in
theorem mm_X8_112 : MaxW RX8 112 := ⟨tbk_4 95 rfl rfl, tbk_4 96 rfl rfl, tbk_1 23 rfl rfl, tbk_4 97 rfl rfl⟩
set_option maxRecDepth 20000 in
theorem mm_X8_117 : MinW RX8 117 := ⟨tbk_4 92 rfl rfl, tbk_4 93 rfl rfl, tbk_1 23 rfl rfl, tbk_4 94 rfl rfl⟩
set_option maxRecDepth 20000 in
theorem mn_X9_begin : MLn mX9_begin 0 := ⟨tbk_1 12 rfl rfl, tbk_6 61 rfl rfl, ne1_X9, ne2_X9, pd_0, Nat.le_of_ble_eq_true rfl, pn_X9⟩
set_option maxRecDepth 20000 in
theorem ml_X9_29 : MLv RX9 29 mX9_begin 0 := ⟨mn_X9_begin, tbk_6 58 rfl rfl, tbk_6 60 rfl rfl, tb_mem 47 rfl rfl⟩
theorem pd_38 : (parseMethodDescriptor "(LDeadPacks$Welds;II)Z").map (fun d => d.parameters.length) = some 3 := by decide +kernel
set_option maxRecDepth 20000 in
theorem mn_X9_goesOn : MLn mX9_goesOn 3 := ⟨tbk_1 12 rfl rfl, tbk_6 65 rfl rfl, ne1_X9, ne2_X9, pd_38, Nat.le_of_ble_eq_true rfl, pn_X9⟩
set_option maxRecDepth 20000 in
theorem ml_X9_32 : MLv RX9 32 mX9_goesOn 3 := ⟨mn_X9_goesOn, tbk_6 62 rfl rfl, tbk_6 64 rfl rfl, tb_mem 48 rfl rfl⟩
set_option maxRecDepth 20000 in
theorem cw_X9_41 : CopyW RX9 41 := ⟨tbk_6 77 rfl rfl, tbk_3 142 rfl rfl, tbk_3 141 rfl rfl, tbk_1 14 rfl rfl⟩
set_option maxRecDepth 20000 in
theorem ml_X9_47 : MLv RX9 47 mX7_at 1 := ⟨mn_X7_at, tbk_6 106 rfl rfl, tbk_4 211 rfl rfl, tbk_4 212 rfl rfl⟩
set_option maxRecDepth 20000 in
theorem mn_X9_isNext : MLn mX9_isNext 3 := ⟨tbk_1 12 rfl rfl, tbk_6 68 rfl rfl, ne1_X9, ne2_X9, pd_38, Nat.le_of_ble_eq_true rfl, pn_X9⟩
set_option maxRecDepth 20000 in
theorem ml_X9_53 : MLs RX9 53 mX9_isNext 3 := ⟨mn_X9_isNext, tbk_6 66 rfl rfl, tbk_6 67 rfl rfl⟩
set_option maxRecDepth 20000 in
theorem mn_X9_weld : MLn mX9_weld 3 := ⟨tbk_1 12 rfl rfl, tbk_6 76 rfl rfl, ne1_X9, ne2_X9, pd_38, Nat.le_of_ble_eq_true rfl, pn_X9⟩
set_option maxRecDepth 20000 in
theorem ml_X9_56 : MLv RX9 56 mX9_weld 3 := ⟨mn_X9_weld, tbk_6 73 rfl rfl, tbk_6 75 rfl rfl, tb_mem 50 rfl rfl⟩
set_option maxRecDepth 20000 in
theorem mn_X9_isDead : MLn mX9_isDead 1 := ⟨tbk_1 12 rfl rfl, tbk_6 72 rfl rfl, ne1_X9, ne2_X9, pd_4, Nat.le_of_ble_eq_true rfl, pn_X9⟩
set_option maxRecDepth 20000 in
theorem ml_X9_62 : MLv RX9 62 mX9_isDead 1 := ⟨mn_X9_isDead, tbk_6 69 rfl rfl, tbk_6 71 rfl rfl, tb_mem 49 rfl rfl⟩
set_option maxRecDepth 20000 in
theorem mn_X9_spoilsRest : MLn mX9_spoilsRest 3 := ⟨tbk_1 12 rfl rfl, tbk_6 93 rfl rfl, ne1_X9, ne2_X9, pd_38, Nat.le_of_ble_eq_true rfl, pn_X9⟩
set_option maxRecDepth 20000 in
theorem ml_X9_66 : MLv RX9 66 mX9_spoilsRest 3 := ⟨mn_X9_spoilsRest, tbk_6 90 rfl rfl, tbk_6 92 rfl rfl, tb_mem 54 rfl rfl⟩
set_option maxRecDepth 20000 in
theorem mn_X9_shorts : MLn mX9_shorts 3 := ⟨tbk_1 12 rfl rfl, tbk_6 89 rfl rfl, ne1_X9, ne2_X9, pd_38, Nat.le_of_ble_eq_true rfl, pn_X9⟩
set_option maxRecDepth 20000 in
theorem ml_X9_69 : MLv RX9 69 mX9_shorts 3 := ⟨mn_X9_shorts, tbk_6 86 rfl rfl, tbk_6 88 rfl rfl, tb_mem 53 rfl rfl⟩
set_option maxRecDepth 20000 in
theorem mn_X9_together : MLn mX9_together 3 := ⟨tbk_1 12 rfl rfl, tbk_6 81 rfl rfl, ne1_X9, ne2_X9, pd_6, Nat.le_of_ble_eq_true rfl, pn_X9⟩
set_option maxRecDepth 20000 in
theorem ml_X9_78 : MLv RX9 78 mX9_together 3 := ⟨mn_X9_together, tbk_6 78 rfl rfl, tbk_6 80 rfl rfl, tb_mem 51 rfl rfl⟩
set_option maxRecDepth 20000 in
theorem mn_X9_apart : MLn mX9_apart 3 := ⟨tbk_1 12 rfl rfl, tbk_6 85 rfl rfl, ne1_X9, ne2_X9, pd_31, Nat.le_of_ble_eq_true rfl, pn_X9⟩
set_option maxRecDepth 20000 in
theorem ml_X9_82 : MLv RX9 82 mX9_apart 3 := ⟨mn_X9_apart, tbk_6 82 rfl rfl, tbk_6 84 rfl rfl, tb_mem 52 rfl rfl⟩
set_option maxRecDepth 20000 in
theorem ml_X10_40 : MLv RX10 40 mX7_begin 1 := ⟨mn_X7_begin, tbk_6 20 rfl rfl, tbk_3 144 rfl rfl, tbk_3 145 rfl rfl⟩
set_option maxRecDepth 20000 in
theorem mn_X10_readStrip : MLn mX10_readStrip 1 := ⟨tbk_1 11 rfl rfl, tbk_6 24 rfl rfl, ne1_X10, ne2_X10, pd_2, Nat.le_of_ble_eq_true rfl, pn_X10⟩
set_option maxRecDepth 20000 in
theorem ml_X10_49 : MLv RX10 49 mX10_readStrip 1 := ⟨mn_X10_readStrip, tbk_6 21 rfl rfl, tbk_6 23 rfl rfl, tb_mem 41 rfl rfl⟩
set_option maxRecDepth 20000 in
theorem ml_X10_56 : MLv RX10 56 mX7_refuse 1 := ⟨mn_X7_refuse, tbk_6 25 rfl rfl, tbk_3 212 rfl rfl, tbk_3 213 rfl rfl⟩
set_option maxRecDepth 20000 in
theorem ml_X10_60 : MLv RX10 60 mX7_step 0 := ⟨mn_X7_step, tbk_6 26 rfl rfl, tbk_3 148 rfl rfl, tbk_3 149 rfl rfl⟩
set_option maxRecDepth 20000 in
theorem ml_X10_63 : MLv RX10 63 mX7_isName 0 := ⟨mn_X7_isName, tbk_6 27 rfl rfl, tbk_3 221 rfl rfl, tbk_3 222 rfl rfl⟩
set_option maxRecDepth 20000 in
theorem mn_X10_named : MLn mX10_named 1 := ⟨tbk_1 11 rfl rfl, tbk_6 31 rfl rfl, ne1_X10, ne2_X10, pd_5, Nat.le_of_ble_eq_true rfl, pn_X10⟩
set_option maxRecDepth 20000 in
theorem ml_X10_70 : MLv RX10 70 mX10_named 1 := ⟨mn_X10_named, tbk_6 28 rfl rfl, tbk_6 30 rfl rfl, tb_mem 42 rfl rfl⟩
set_option maxRecDepth 20000 in
theorem mn_X10_readEnds : MLn mX10_readEnds 1 := ⟨tbk_1 11 rfl rfl, tbk_6 35 rfl rfl, ne1_X10, ne2_X10, pd_2, Nat.le_of_ble_eq_true rfl, pn_X10⟩
set_option maxRecDepth 20000 in
theorem ml_X10_74 : MLv RX10 74 mX10_readEnds 1 := ⟨mn_X10_readEnds, tbk_6 32 rfl rfl, tbk_6 34 rfl rfl, tb_mem 43 rfl rfl⟩
set_option maxRecDepth 20000 in
theorem mn_X10_readAfters : MLn mX10_readAfters 1 := ⟨tbk_1 11 rfl rfl, tbk_6 44 rfl rfl, ne1_X10, ne2_X10, pd_2, Nat.le_of_ble_eq_true rfl, pn_X10⟩
set_option maxRecDepth 20000 in
theorem ml_X10_77 : MLv RX10 77 mX10_readAfters 1 := ⟨mn_X10_readAfters, tbk_6 41 rfl rfl, tbk_6 43 rfl rfl, tb_mem 45 rfl rfl⟩
set_option maxRecDepth 20000 in
theorem mn_X10_readNears : MLn mX10_readNears 1 := ⟨tbk_1 11 rfl rfl, tbk_6 48 rfl rfl, ne1_X10, ne2_X10, pd_2, Nat.le_of_ble_eq_true rfl, pn_X10⟩
set_option maxRecDepth 20000 in
theorem ml_X10_80 : MLv RX10 80 mX10_readNears 1 := ⟨mn_X10_readNears, tbk_6 45 rfl rfl, tbk_6 47 rfl rfl, tb_mem 46 rfl rfl⟩
set_option maxRecDepth 20000 in
theorem ml_X10_83 : MLv RX10 83 mX7_takeSign 1 := ⟨mn_X7_takeSign, tbk_6 49 rfl rfl, tbk_4 10 rfl rfl, tbk_4 11 rfl rfl⟩
set_option maxRecDepth 20000 in
theorem ml_X10_86 : MLv RX10 86 mX7_isNumber 2 := ⟨mn_X7_isNumber, tbk_6 40 rfl rfl, tbk_4 5 rfl rfl, tbk_4 6 rfl rfl⟩
set_option maxRecDepth 20000 in
theorem mn_X10_readNode : MLn mX10_readNode 1 := ⟨tbk_1 11 rfl rfl, tbk_6 39 rfl rfl, ne1_X10, ne2_X10, pd_2, Nat.le_of_ble_eq_true rfl, pn_X10⟩
set_option maxRecDepth 20000 in
theorem ml_X10_93 : MLv RX10 93 mX10_readNode 1 := ⟨mn_X10_readNode, tbk_6 36 rfl rfl, tbk_6 38 rfl rfl, tb_mem 44 rfl rfl⟩
set_option maxRecDepth 20000 in
theorem mn_X11_lean : MLn mX11_lean 2 := ⟨tbk_1 1 rfl rfl, tbk_6 137 rfl rfl, ne1_X11, ne2_X11, pd_9, Nat.le_of_ble_eq_true rfl, pn_X11⟩
set_option maxRecDepth 20000 in
theorem ml_L_7 : MLv RL 7 mX11_lean 2 := ⟨mn_X11_lean, tbk_6 134 rfl rfl, tbk_6 135 rfl rfl, tbk_6 136 rfl rfl⟩
set_option maxRecDepth 20000 in
theorem mn_X11_about : MLn mX11_about 2 := ⟨tbk_1 1 rfl rfl, tbk_6 205 rfl rfl, ne1_X11, ne2_X11, pd_9, Nat.le_of_ble_eq_true rfl, pn_X11⟩
set_option maxRecDepth 20000 in
theorem ml_L_15 : MLv RL 15 mX11_about 2 := ⟨mn_X11_about, tbk_6 202 rfl rfl, tbk_6 203 rfl rfl, tbk_6 204 rfl rfl⟩
set_option maxRecDepth 20000 in
theorem mn_X11_fall : MLn mX11_fall 2 := ⟨tbk_1 1 rfl rfl, tbk_6 213 rfl rfl, ne1_X11, ne2_X11, pd_9, Nat.le_of_ble_eq_true rfl, pn_X11⟩
set_option maxRecDepth 20000 in
theorem ml_L_18 : MLv RL 18 mX11_fall 2 := ⟨mn_X11_fall, tbk_6 210 rfl rfl, tbk_6 211 rfl rfl, tbk_6 212 rfl rfl⟩
set_option maxRecDepth 20000 in
theorem mn_X11_row : MLn mX11_row 3 := ⟨tbk_1 1 rfl rfl, tbk_6 225 rfl rfl, ne1_X11, ne2_X11, pd_31, Nat.le_of_ble_eq_true rfl, pn_X11⟩
set_option maxRecDepth 20000 in
theorem ml_L_21 : MLv RL 21 mX11_row 3 := ⟨mn_X11_row, tbk_6 222 rfl rfl, tbk_6 223 rfl rfl, tbk_6 224 rfl rfl⟩
set_option maxRecDepth 20000 in
theorem mn_X11_init : MLn mX11_init 0 := ⟨tbk_1 1 rfl rfl, tbk_1 28 rfl rfl, ne1_X11, ne2_X11, pd_0, Nat.le_of_ble_eq_true rfl, pn_X11⟩
set_option maxRecDepth 20000 in
theorem ml_L_25 : MLi RL 25 mX11_init 0 := ⟨mn_X11_init, tbk_1 26 rfl rfl, tbk_1 27 rfl rfl, rfl, rfl⟩
set_option maxRecDepth 20000 in
theorem mn_X12_init : MLn mX12_init 0 := ⟨tbk_1 13 rfl rfl, tbk_7 7 rfl rfl, ne1_X12, ne2_X12, pd_0, Nat.le_of_ble_eq_true rfl, pn_X12⟩
set_option maxRecDepth 20000 in
theorem ml_L_28 : MLi RL 28 mX12_init 0 := ⟨mn_X12_init, tbk_7 5 rfl rfl, tbk_7 6 rfl rfl, rfl, rfl⟩
theorem pd_39 : (parseMethodDescriptor "(IIIII)I").map (fun d => d.parameters.length) = some 5 := by decide +kernel
set_option maxRecDepth 20000 in
theorem mn_X11_feed : MLn mX11_feed 5 := ⟨tbk_1 1 rfl rfl, tbk_3 123 rfl rfl, ne1_X11, ne2_X11, pd_39, Nat.le_of_ble_eq_true rfl, pn_X11⟩
set_option maxRecDepth 20000 in
theorem ml_L_29 : MLv RL 29 mX11_feed 5 := ⟨mn_X11_feed, tbk_3 120 rfl rfl, tbk_3 121 rfl rfl, tbk_3 122 rfl rfl⟩
set_option maxRecDepth 20000 in
theorem mn_X12_feed : MLn mX12_feed 5 := ⟨tbk_1 13 rfl rfl, tbk_6 234 rfl rfl, ne1_X12, ne2_X12, pd_39, Nat.le_of_ble_eq_true rfl, pn_X12⟩
set_option maxRecDepth 20000 in
theorem ml_L_33 : MLv RL 33 mX12_feed 5 := ⟨mn_X12_feed, tbk_6 231 rfl rfl, tbk_6 232 rfl rfl, tbk_6 233 rfl rfl⟩
set_option maxRecDepth 20000 in
theorem mn_X11_end : MLn mX11_end 1 := ⟨tbk_1 1 rfl rfl, tbk_3 131 rfl rfl, ne1_X11, ne2_X11, pd_4, Nat.le_of_ble_eq_true rfl, pn_X11⟩
set_option maxRecDepth 20000 in
theorem ml_L_34 : MLv RL 34 mX11_end 1 := ⟨mn_X11_end, tbk_3 128 rfl rfl, tbk_3 129 rfl rfl, tbk_3 130 rfl rfl⟩
set_option maxRecDepth 20000 in
theorem mn_X12_end : MLn mX12_end 1 := ⟨tbk_1 13 rfl rfl, tbk_7 3 rfl rfl, ne1_X12, ne2_X12, pd_4, Nat.le_of_ble_eq_true rfl, pn_X12⟩
set_option maxRecDepth 20000 in
theorem ml_L_38 : MLv RL 38 mX12_end 1 := ⟨mn_X12_end, tbk_7 0 rfl rfl, tbk_7 1 rfl rfl, tbk_7 2 rfl rfl⟩
theorem pd_40 : (parseMethodDescriptor "()I").map (fun d => d.parameters.length) = some 0 := by decide +kernel
set_option maxRecDepth 20000 in
theorem mn_X11_house : MLn mX11_house 0 := ⟨tbk_1 1 rfl rfl, tbk_3 135 rfl rfl, ne1_X11, ne2_X11, pd_40, Nat.le_of_ble_eq_true rfl, pn_X11⟩
set_option maxRecDepth 20000 in
theorem ml_L_39 : MLv RL 39 mX11_house 0 := ⟨mn_X11_house, tbk_3 132 rfl rfl, tbk_3 133 rfl rfl, tbk_3 134 rfl rfl⟩
set_option maxRecDepth 20000 in
theorem mn_X12_house : MLn mX12_house 0 := ⟨tbk_1 13 rfl rfl, tbk_8 47 rfl rfl, ne1_X12, ne2_X12, pd_40, Nat.le_of_ble_eq_true rfl, pn_X12⟩
set_option maxRecDepth 20000 in
theorem ml_L_43 : MLv RL 43 mX12_house 0 := ⟨mn_X12_house, tbk_8 44 rfl rfl, tbk_8 45 rfl rfl, tbk_8 46 rfl rfl⟩
set_option maxRecDepth 20000 in
theorem mn_X11_fault : MLn mX11_fault 0 := ⟨tbk_1 1 rfl rfl, tbk_4 28 rfl rfl, ne1_X11, ne2_X11, pd_40, Nat.le_of_ble_eq_true rfl, pn_X11⟩
set_option maxRecDepth 20000 in
theorem ml_L_44 : MLv RL 44 mX11_fault 0 := ⟨mn_X11_fault, tbk_4 25 rfl rfl, tbk_4 26 rfl rfl, tbk_4 27 rfl rfl⟩
set_option maxRecDepth 20000 in
theorem mn_X12_fault : MLn mX12_fault 0 := ⟨tbk_1 13 rfl rfl, tbk_8 112 rfl rfl, ne1_X12, ne2_X12, pd_40, Nat.le_of_ble_eq_true rfl, pn_X12⟩
set_option maxRecDepth 20000 in
theorem ml_L_47 : MLv RL 47 mX12_fault 0 := ⟨mn_X12_fault, tbk_8 109 rfl rfl, tbk_8 110 rfl rfl, tbk_8 111 rfl rfl⟩
set_option maxRecDepth 20000 in
theorem mn_X11_cell : MLn mX11_cell 1 := ⟨tbk_1 1 rfl rfl, tbk_4 32 rfl rfl, ne1_X11, ne2_X11, pd_5, Nat.le_of_ble_eq_true rfl, pn_X11⟩
set_option maxRecDepth 20000 in
theorem ml_L_48 : MLv RL 48 mX11_cell 1 := ⟨mn_X11_cell, tbk_4 29 rfl rfl, tbk_4 30 rfl rfl, tbk_4 31 rfl rfl⟩
set_option maxRecDepth 20000 in
theorem mn_X12_cell : MLn mX12_cell 1 := ⟨tbk_1 13 rfl rfl, tbk_8 116 rfl rfl, ne1_X12, ne2_X12, pd_5, Nat.le_of_ble_eq_true rfl, pn_X12⟩
set_option maxRecDepth 20000 in
theorem ml_L_52 : MLv RL 52 mX12_cell 1 := ⟨mn_X12_cell, tbk_8 113 rfl rfl, tbk_8 114 rfl rfl, tbk_8 115 rfl rfl⟩
set_option maxRecDepth 20000 in
theorem mn_X11_read : MLn mX11_read 4 := ⟨tbk_1 1 rfl rfl, tbk_4 44 rfl rfl, ne1_X11, ne2_X11, pd_7, Nat.le_of_ble_eq_true rfl, pn_X11⟩
set_option maxRecDepth 20000 in
theorem ml_L_53 : MLv RL 53 mX11_read 4 := ⟨mn_X11_read, tbk_4 41 rfl rfl, tbk_4 42 rfl rfl, tbk_4 43 rfl rfl⟩
set_option maxRecDepth 20000 in
theorem mn_X12_read : MLn mX12_read 4 := ⟨tbk_1 13 rfl rfl, tbk_8 120 rfl rfl, ne1_X12, ne2_X12, pd_7, Nat.le_of_ble_eq_true rfl, pn_X12⟩
set_option maxRecDepth 20000 in
theorem ml_L_57 : MLv RL 57 mX12_read 4 := ⟨mn_X12_read, tbk_8 117 rfl rfl, tbk_8 118 rfl rfl, tbk_8 119 rfl rfl⟩
set_option maxRecDepth 20000 in
theorem mn_X11_rest : MLn mX11_rest 4 := ⟨tbk_1 1 rfl rfl, tbk_4 63 rfl rfl, ne1_X11, ne2_X11, pd_7, Nat.le_of_ble_eq_true rfl, pn_X11⟩
set_option maxRecDepth 20000 in
theorem ml_L_58 : MLv RL 58 mX11_rest 4 := ⟨mn_X11_rest, tbk_4 60 rfl rfl, tbk_4 61 rfl rfl, tbk_4 62 rfl rfl⟩
set_option maxRecDepth 20000 in
theorem mn_X12_rest : MLn mX12_rest 4 := ⟨tbk_1 13 rfl rfl, tbk_8 128 rfl rfl, ne1_X12, ne2_X12, pd_7, Nat.le_of_ble_eq_true rfl, pn_X12⟩
set_option maxRecDepth 20000 in
theorem ml_L_61 : MLv RL 61 mX12_rest 4 := ⟨mn_X12_rest, tbk_8 125 rfl rfl, tbk_8 126 rfl rfl, tbk_8 127 rfl rfl⟩
set_option maxRecDepth 20000 in
theorem mn_X12_lean : MLn mX12_lean 2 := ⟨tbk_1 13 rfl rfl, tbk_8 136 rfl rfl, ne1_X12, ne2_X12, pd_9, Nat.le_of_ble_eq_true rfl, pn_X12⟩
set_option maxRecDepth 20000 in
theorem ml_L_67 : MLv RL 67 mX12_lean 2 := ⟨mn_X12_lean, tbk_8 133 rfl rfl, tbk_8 134 rfl rfl, tbk_8 135 rfl rfl⟩
set_option maxRecDepth 20000 in
theorem mn_X12_thrown : MLn mX12_thrown 0 := ⟨tbk_1 13 rfl rfl, tbk_6 230 rfl rfl, ne1_X12, ne2_X12, pd_40, Nat.le_of_ble_eq_true rfl, pn_X12⟩
set_option maxRecDepth 20000 in
theorem ml_L_68 : MLv RL 68 mX12_thrown 0 := ⟨mn_X12_thrown, tbk_6 227 rfl rfl, tbk_6 228 rfl rfl, tbk_6 229 rfl rfl⟩
set_option maxRecDepth 20000 in
theorem mn_X12_about : MLn mX12_about 2 := ⟨tbk_1 13 rfl rfl, tbk_8 160 rfl rfl, ne1_X12, ne2_X12, pd_9, Nat.le_of_ble_eq_true rfl, pn_X12⟩
set_option maxRecDepth 20000 in
theorem ml_L_73 : MLv RL 73 mX12_about 2 := ⟨mn_X12_about, tbk_8 157 rfl rfl, tbk_8 158 rfl rfl, tbk_8 159 rfl rfl⟩
set_option maxRecDepth 20000 in
theorem mn_X11_again : MLn mX11_again 0 := ⟨tbk_1 1 rfl rfl, tbk_4 71 rfl rfl, ne1_X11, ne2_X11, pd_40, Nat.le_of_ble_eq_true rfl, pn_X11⟩
set_option maxRecDepth 20000 in
theorem ml_L_74 : MLv RL 74 mX11_again 0 := ⟨mn_X11_again, tbk_4 68 rfl rfl, tbk_4 69 rfl rfl, tbk_4 70 rfl rfl⟩
set_option maxRecDepth 20000 in
theorem mn_X12_again : MLn mX12_again 0 := ⟨tbk_1 13 rfl rfl, tbk_8 173 rfl rfl, ne1_X12, ne2_X12, pd_40, Nat.le_of_ble_eq_true rfl, pn_X12⟩
set_option maxRecDepth 20000 in
theorem ml_L_77 : MLv RL 77 mX12_again 0 := ⟨mn_X12_again, tbk_8 170 rfl rfl, tbk_8 171 rfl rfl, tbk_8 172 rfl rfl⟩
set_option maxRecDepth 20000 in
theorem mn_X12_fall : MLn mX12_fall 2 := ⟨tbk_1 13 rfl rfl, tbk_8 177 rfl rfl, ne1_X12, ne2_X12, pd_9, Nat.le_of_ble_eq_true rfl, pn_X12⟩
set_option maxRecDepth 20000 in
theorem ml_L_80 : MLv RL 80 mX12_fall 2 := ⟨mn_X12_fall, tbk_8 174 rfl rfl, tbk_8 175 rfl rfl, tbk_8 176 rfl rfl⟩
set_option maxRecDepth 20000 in
theorem mn_X11_lies : MLn mX11_lies 1 := ⟨tbk_1 1 rfl rfl, tbk_4 124 rfl rfl, ne1_X11, ne2_X11, pd_5, Nat.le_of_ble_eq_true rfl, pn_X11⟩
set_option maxRecDepth 20000 in
theorem ml_L_81 : MLv RL 81 mX11_lies 1 := ⟨mn_X11_lies, tbk_4 121 rfl rfl, tbk_4 122 rfl rfl, tbk_4 123 rfl rfl⟩
set_option maxRecDepth 20000 in
theorem mn_X12_lies : MLn mX12_lies 1 := ⟨tbk_1 13 rfl rfl, tbk_8 191 rfl rfl, ne1_X12, ne2_X12, pd_5, Nat.le_of_ble_eq_true rfl, pn_X12⟩
set_option maxRecDepth 20000 in
theorem ml_L_84 : MLv RL 84 mX12_lies 1 := ⟨mn_X12_lies, tbk_8 188 rfl rfl, tbk_8 189 rfl rfl, tbk_8 190 rfl rfl⟩
set_option maxRecDepth 20000 in
theorem mn_X11_days : MLn mX11_days 1 := ⟨tbk_1 1 rfl rfl, tbk_4 140 rfl rfl, ne1_X11, ne2_X11, pd_5, Nat.le_of_ble_eq_true rfl, pn_X11⟩
set_option maxRecDepth 20000 in
theorem ml_L_85 : MLv RL 85 mX11_days 1 := ⟨mn_X11_days, tbk_4 137 rfl rfl, tbk_4 138 rfl rfl, tbk_4 139 rfl rfl⟩
set_option maxRecDepth 20000 in
theorem mn_X12_days : MLn mX12_days 1 := ⟨tbk_1 13 rfl rfl, tbk_8 199 rfl rfl, ne1_X12, ne2_X12, pd_5, Nat.le_of_ble_eq_true rfl, pn_X12⟩
set_option maxRecDepth 20000 in
theorem ml_L_88 : MLv RL 88 mX12_days 1 := ⟨mn_X12_days, tbk_8 196 rfl rfl, tbk_8 197 rfl rfl, tbk_8 198 rfl rfl⟩
set_option maxRecDepth 20000 in
theorem mn_X11_rule : MLn mX11_rule 0 := ⟨tbk_1 1 rfl rfl, tbk_4 145 rfl rfl, ne1_X11, ne2_X11, pd_40, Nat.le_of_ble_eq_true rfl, pn_X11⟩
set_option maxRecDepth 20000 in
theorem ml_L_89 : MLv RL 89 mX11_rule 0 := ⟨mn_X11_rule, tbk_4 142 rfl rfl, tbk_4 143 rfl rfl, tbk_4 144 rfl rfl⟩
set_option maxRecDepth 20000 in
theorem mn_X12_rule : MLn mX12_rule 0 := ⟨tbk_1 13 rfl rfl, tbk_8 203 rfl rfl, ne1_X12, ne2_X12, pd_40, Nat.le_of_ble_eq_true rfl, pn_X12⟩
set_option maxRecDepth 20000 in
theorem ml_L_92 : MLv RL 92 mX12_rule 0 := ⟨mn_X12_rule, tbk_8 200 rfl rfl, tbk_8 201 rfl rfl, tbk_8 202 rfl rfl⟩
set_option maxRecDepth 20000 in
theorem mn_X11_meets : MLn mX11_meets 1 := ⟨tbk_1 1 rfl rfl, tbk_4 188 rfl rfl, ne1_X11, ne2_X11, pd_5, Nat.le_of_ble_eq_true rfl, pn_X11⟩
set_option maxRecDepth 20000 in
theorem ml_L_93 : MLv RL 93 mX11_meets 1 := ⟨mn_X11_meets, tbk_4 185 rfl rfl, tbk_4 186 rfl rfl, tbk_4 187 rfl rfl⟩
set_option maxRecDepth 20000 in
theorem mn_X12_meets : MLn mX12_meets 1 := ⟨tbk_1 13 rfl rfl, tbk_9 2 rfl rfl, ne1_X12, ne2_X12, pd_5, Nat.le_of_ble_eq_true rfl, pn_X12⟩
set_option maxRecDepth 20000 in
theorem ml_L_96 : MLv RL 96 mX12_meets 1 := ⟨mn_X12_meets, tbk_8 239 rfl rfl, tbk_9 0 rfl rfl, tbk_9 1 rfl rfl⟩
set_option maxRecDepth 20000 in
theorem mn_X11_rows : MLn mX11_rows 1 := ⟨tbk_1 1 rfl rfl, tbk_4 205 rfl rfl, ne1_X11, ne2_X11, pd_5, Nat.le_of_ble_eq_true rfl, pn_X11⟩
set_option maxRecDepth 20000 in
theorem ml_L_97 : MLv RL 97 mX11_rows 1 := ⟨mn_X11_rows, tbk_4 202 rfl rfl, tbk_4 203 rfl rfl, tbk_4 204 rfl rfl⟩
set_option maxRecDepth 20000 in
theorem mn_X12_rows : MLn mX12_rows 1 := ⟨tbk_1 13 rfl rfl, tbk_9 14 rfl rfl, ne1_X12, ne2_X12, pd_5, Nat.le_of_ble_eq_true rfl, pn_X12⟩
set_option maxRecDepth 20000 in
theorem ml_L_100 : MLv RL 100 mX12_rows 1 := ⟨mn_X12_rows, tbk_9 11 rfl rfl, tbk_9 12 rfl rfl, tbk_9 13 rfl rfl⟩
set_option maxRecDepth 20000 in
theorem mn_X11_rowAt : MLn mX11_rowAt 1 := ⟨tbk_1 1 rfl rfl, tbk_5 26 rfl rfl, ne1_X11, ne2_X11, pd_5, Nat.le_of_ble_eq_true rfl, pn_X11⟩
set_option maxRecDepth 20000 in
theorem ml_L_101 : MLv RL 101 mX11_rowAt 1 := ⟨mn_X11_rowAt, tbk_5 23 rfl rfl, tbk_5 24 rfl rfl, tbk_5 25 rfl rfl⟩
set_option maxRecDepth 20000 in
theorem mn_X12_rowAt : MLn mX12_rowAt 1 := ⟨tbk_1 13 rfl rfl, tbk_9 34 rfl rfl, ne1_X12, ne2_X12, pd_5, Nat.le_of_ble_eq_true rfl, pn_X12⟩
set_option maxRecDepth 20000 in
theorem ml_L_104 : MLv RL 104 mX12_rowAt 1 := ⟨mn_X12_rowAt, tbk_9 31 rfl rfl, tbk_9 32 rfl rfl, tbk_9 33 rfl rfl⟩
set_option maxRecDepth 20000 in
theorem mn_X11_rowsBy : MLn mX11_rowsBy 1 := ⟨tbk_1 1 rfl rfl, tbk_5 30 rfl rfl, ne1_X11, ne2_X11, pd_5, Nat.le_of_ble_eq_true rfl, pn_X11⟩
set_option maxRecDepth 20000 in
theorem ml_L_105 : MLv RL 105 mX11_rowsBy 1 := ⟨mn_X11_rowsBy, tbk_5 27 rfl rfl, tbk_5 28 rfl rfl, tbk_5 29 rfl rfl⟩
set_option maxRecDepth 20000 in
theorem mn_X12_rowsBy : MLn mX12_rowsBy 1 := ⟨tbk_1 13 rfl rfl, tbk_9 38 rfl rfl, ne1_X12, ne2_X12, pd_5, Nat.le_of_ble_eq_true rfl, pn_X12⟩
set_option maxRecDepth 20000 in
theorem ml_L_108 : MLv RL 108 mX12_rowsBy 1 := ⟨mn_X12_rowsBy, tbk_9 35 rfl rfl, tbk_9 36 rfl rfl, tbk_9 37 rfl rfl⟩
set_option maxRecDepth 20000 in
theorem mn_X11_swaps : MLn mX11_swaps 1 := ⟨tbk_1 1 rfl rfl, tbk_5 34 rfl rfl, ne1_X11, ne2_X11, pd_5, Nat.le_of_ble_eq_true rfl, pn_X11⟩
set_option maxRecDepth 20000 in
theorem ml_L_109 : MLv RL 109 mX11_swaps 1 := ⟨mn_X11_swaps, tbk_5 31 rfl rfl, tbk_5 32 rfl rfl, tbk_5 33 rfl rfl⟩
set_option maxRecDepth 20000 in
theorem mn_X12_swaps : MLn mX12_swaps 1 := ⟨tbk_1 13 rfl rfl, tbk_9 42 rfl rfl, ne1_X12, ne2_X12, pd_5, Nat.le_of_ble_eq_true rfl, pn_X12⟩
set_option maxRecDepth 20000 in
theorem ml_L_112 : MLv RL 112 mX12_swaps 1 := ⟨mn_X12_swaps, tbk_9 39 rfl rfl, tbk_9 40 rfl rfl, tbk_9 41 rfl rfl⟩
set_option maxRecDepth 20000 in
theorem mn_X11_swapAt : MLn mX11_swapAt 1 := ⟨tbk_1 1 rfl rfl, tbk_5 69 rfl rfl, ne1_X11, ne2_X11, pd_5, Nat.le_of_ble_eq_true rfl, pn_X11⟩
set_option maxRecDepth 20000 in
theorem ml_L_113 : MLv RL 113 mX11_swapAt 1 := ⟨mn_X11_swapAt, tbk_5 66 rfl rfl, tbk_5 67 rfl rfl, tbk_5 68 rfl rfl⟩
set_option maxRecDepth 20000 in
theorem mn_X12_swapAt : MLn mX12_swapAt 1 := ⟨tbk_1 13 rfl rfl, tbk_9 70 rfl rfl, ne1_X12, ne2_X12, pd_5, Nat.le_of_ble_eq_true rfl, pn_X12⟩
set_option maxRecDepth 20000 in
theorem ml_L_116 : MLv RL 116 mX12_swapAt 1 := ⟨mn_X12_swapAt, tbk_9 67 rfl rfl, tbk_9 68 rfl rfl, tbk_9 69 rfl rfl⟩
set_option maxRecDepth 20000 in
theorem mn_X11_swapsBy : MLn mX11_swapsBy 1 := ⟨tbk_1 1 rfl rfl, tbk_5 73 rfl rfl, ne1_X11, ne2_X11, pd_5, Nat.le_of_ble_eq_true rfl, pn_X11⟩
set_option maxRecDepth 20000 in
theorem ml_L_117 : MLv RL 117 mX11_swapsBy 1 := ⟨mn_X11_swapsBy, tbk_5 70 rfl rfl, tbk_5 71 rfl rfl, tbk_5 72 rfl rfl⟩
set_option maxRecDepth 20000 in
theorem mn_X12_swapsBy : MLn mX12_swapsBy 1 := ⟨tbk_1 13 rfl rfl, tbk_9 74 rfl rfl, ne1_X12, ne2_X12, pd_5, Nat.le_of_ble_eq_true rfl, pn_X12⟩
set_option maxRecDepth 20000 in
theorem ml_L_120 : MLv RL 120 mX12_swapsBy 1 := ⟨mn_X12_swapsBy, tbk_9 71 rfl rfl, tbk_9 72 rfl rfl, tbk_9 73 rfl rfl⟩
set_option maxRecDepth 20000 in
theorem mn_X11_most : MLn mX11_most 3 := ⟨tbk_1 1 rfl rfl, tbk_5 77 rfl rfl, ne1_X11, ne2_X11, pd_31, Nat.le_of_ble_eq_true rfl, pn_X11⟩
set_option maxRecDepth 20000 in
theorem ml_L_121 : MLv RL 121 mX11_most 3 := ⟨mn_X11_most, tbk_5 74 rfl rfl, tbk_5 75 rfl rfl, tbk_5 76 rfl rfl⟩
set_option maxRecDepth 20000 in
theorem mn_X12_most : MLn mX12_most 3 := ⟨tbk_1 13 rfl rfl, tbk_9 78 rfl rfl, ne1_X12, ne2_X12, pd_31, Nat.le_of_ble_eq_true rfl, pn_X12⟩
set_option maxRecDepth 20000 in
theorem ml_L_124 : MLv RL 124 mX12_most 3 := ⟨mn_X12_most, tbk_9 75 rfl rfl, tbk_9 76 rfl rfl, tbk_9 77 rfl rfl⟩
set_option maxRecDepth 20000 in
theorem mn_X11_share : MLn mX11_share 1 := ⟨tbk_1 1 rfl rfl, tbk_5 93 rfl rfl, ne1_X11, ne2_X11, pd_5, Nat.le_of_ble_eq_true rfl, pn_X11⟩
set_option maxRecDepth 20000 in
theorem ml_L_125 : MLv RL 125 mX11_share 1 := ⟨mn_X11_share, tbk_5 90 rfl rfl, tbk_5 91 rfl rfl, tbk_5 92 rfl rfl⟩
set_option maxRecDepth 20000 in
theorem mn_X12_share : MLn mX12_share 1 := ⟨tbk_1 13 rfl rfl, tbk_9 82 rfl rfl, ne1_X12, ne2_X12, pd_5, Nat.le_of_ble_eq_true rfl, pn_X12⟩
set_option maxRecDepth 20000 in
theorem ml_L_128 : MLv RL 128 mX12_share 1 := ⟨mn_X12_share, tbk_9 79 rfl rfl, tbk_9 80 rfl rfl, tbk_9 81 rfl rfl⟩
set_option maxRecDepth 20000 in
theorem mn_X11_shareAt : MLn mX11_shareAt 1 := ⟨tbk_1 1 rfl rfl, tbk_5 116 rfl rfl, ne1_X11, ne2_X11, pd_5, Nat.le_of_ble_eq_true rfl, pn_X11⟩
set_option maxRecDepth 20000 in
theorem ml_L_129 : MLv RL 129 mX11_shareAt 1 := ⟨mn_X11_shareAt, tbk_5 113 rfl rfl, tbk_5 114 rfl rfl, tbk_5 115 rfl rfl⟩
set_option maxRecDepth 20000 in
theorem mn_X12_shareAt : MLn mX12_shareAt 1 := ⟨tbk_1 13 rfl rfl, tbk_9 86 rfl rfl, ne1_X12, ne2_X12, pd_5, Nat.le_of_ble_eq_true rfl, pn_X12⟩
set_option maxRecDepth 20000 in
theorem ml_L_132 : MLv RL 132 mX12_shareAt 1 := ⟨mn_X12_shareAt, tbk_9 83 rfl rfl, tbk_9 84 rfl rfl, tbk_9 85 rfl rfl⟩
set_option maxRecDepth 20000 in
theorem mn_X11_pack : MLn mX11_pack 2 := ⟨tbk_1 1 rfl rfl, tbk_5 120 rfl rfl, ne1_X11, ne2_X11, pd_9, Nat.le_of_ble_eq_true rfl, pn_X11⟩
set_option maxRecDepth 20000 in
theorem ml_L_133 : MLv RL 133 mX11_pack 2 := ⟨mn_X11_pack, tbk_5 117 rfl rfl, tbk_5 118 rfl rfl, tbk_5 119 rfl rfl⟩
set_option maxRecDepth 20000 in
theorem mn_X12_pack : MLn mX12_pack 2 := ⟨tbk_1 13 rfl rfl, tbk_9 90 rfl rfl, ne1_X12, ne2_X12, pd_9, Nat.le_of_ble_eq_true rfl, pn_X12⟩
set_option maxRecDepth 20000 in
theorem ml_L_136 : MLv RL 136 mX12_pack 2 := ⟨mn_X12_pack, tbk_9 87 rfl rfl, tbk_9 88 rfl rfl, tbk_9 89 rfl rfl⟩
set_option maxRecDepth 20000 in
theorem mn_X12_row : MLn mX12_row 3 := ⟨tbk_1 13 rfl rfl, tbk_9 94 rfl rfl, ne1_X12, ne2_X12, pd_31, Nat.le_of_ble_eq_true rfl, pn_X12⟩
set_option maxRecDepth 20000 in
theorem ml_L_140 : MLv RL 140 mX12_row 3 := ⟨mn_X12_row, tbk_9 91 rfl rfl, tbk_9 92 rfl rfl, tbk_9 93 rfl rfl⟩
set_option maxRecDepth 20000 in
theorem mn_X11_inPack : MLn mX11_inPack 2 := ⟨tbk_1 1 rfl rfl, tbk_5 128 rfl rfl, ne1_X11, ne2_X11, pd_9, Nat.le_of_ble_eq_true rfl, pn_X11⟩
set_option maxRecDepth 20000 in
theorem ml_L_141 : MLv RL 141 mX11_inPack 2 := ⟨mn_X11_inPack, tbk_5 125 rfl rfl, tbk_5 126 rfl rfl, tbk_5 127 rfl rfl⟩
set_option maxRecDepth 20000 in
theorem mn_X12_inPack : MLn mX12_inPack 2 := ⟨tbk_1 13 rfl rfl, tbk_9 125 rfl rfl, ne1_X12, ne2_X12, pd_9, Nat.le_of_ble_eq_true rfl, pn_X12⟩
set_option maxRecDepth 20000 in
theorem ml_L_144 : MLv RL 144 mX12_inPack 2 := ⟨mn_X12_inPack, tbk_9 122 rfl rfl, tbk_9 123 rfl rfl, tbk_9 124 rfl rfl⟩
set_option maxRecDepth 20000 in
theorem mn_X11_life : MLn mX11_life 1 := ⟨tbk_1 1 rfl rfl, tbk_5 140 rfl rfl, ne1_X11, ne2_X11, pd_5, Nat.le_of_ble_eq_true rfl, pn_X11⟩
set_option maxRecDepth 20000 in
theorem ml_L_145 : MLv RL 145 mX11_life 1 := ⟨mn_X11_life, tbk_5 137 rfl rfl, tbk_5 138 rfl rfl, tbk_5 139 rfl rfl⟩
set_option maxRecDepth 20000 in
theorem mn_X12_life : MLn mX12_life 1 := ⟨tbk_1 13 rfl rfl, tbk_9 129 rfl rfl, ne1_X12, ne2_X12, pd_5, Nat.le_of_ble_eq_true rfl, pn_X12⟩
set_option maxRecDepth 20000 in
theorem ml_L_148 : MLv RL 148 mX12_life 1 := ⟨mn_X12_life, tbk_9 126 rfl rfl, tbk_9 127 rfl rfl, tbk_9 128 rfl rfl⟩
set_option maxRecDepth 20000 in
theorem mn_X11_ends : MLn mX11_ends 1 := ⟨tbk_1 1 rfl rfl, tbk_5 177 rfl rfl, ne1_X11, ne2_X11, pd_5, Nat.le_of_ble_eq_true rfl, pn_X11⟩
set_option maxRecDepth 20000 in
theorem ml_L_149 : MLv RL 149 mX11_ends 1 := ⟨mn_X11_ends, tbk_5 174 rfl rfl, tbk_5 175 rfl rfl, tbk_5 176 rfl rfl⟩
set_option maxRecDepth 20000 in
theorem mn_X12_ends : MLn mX12_ends 1 := ⟨tbk_1 13 rfl rfl, tbk_9 137 rfl rfl, ne1_X12, ne2_X12, pd_5, Nat.le_of_ble_eq_true rfl, pn_X12⟩
set_option maxRecDepth 20000 in
theorem ml_L_152 : MLv RL 152 mX12_ends 1 := ⟨mn_X12_ends, tbk_9 134 rfl rfl, tbk_9 135 rfl rfl, tbk_9 136 rfl rfl⟩
set_option maxRecDepth 20000 in
theorem mn_X11_mend : MLn mX11_mend 4 := ⟨tbk_1 1 rfl rfl, tbk_5 181 rfl rfl, ne1_X11, ne2_X11, pd_21, Nat.le_of_ble_eq_true rfl, pn_X11⟩
set_option maxRecDepth 20000 in
theorem ml_L_153 : MLv RL 153 mX11_mend 4 := ⟨mn_X11_mend, tbk_5 178 rfl rfl, tbk_5 179 rfl rfl, tbk_5 180 rfl rfl⟩
set_option maxRecDepth 20000 in
theorem mn_X12_mend : MLn mX12_mend 4 := ⟨tbk_1 13 rfl rfl, tbk_9 141 rfl rfl, ne1_X12, ne2_X12, pd_21, Nat.le_of_ble_eq_true rfl, pn_X12⟩
set_option maxRecDepth 20000 in
theorem ml_L_157 : MLv RL 157 mX12_mend 4 := ⟨mn_X12_mend, tbk_9 138 rfl rfl, tbk_9 139 rfl rfl, tbk_9 140 rfl rfl⟩
set_option maxRecDepth 20000 in
theorem mn_X11_bestMend : MLn mX11_bestMend 1 := ⟨tbk_1 1 rfl rfl, tbk_5 193 rfl rfl, ne1_X11, ne2_X11, pd_5, Nat.le_of_ble_eq_true rfl, pn_X11⟩
set_option maxRecDepth 20000 in
theorem ml_L_158 : MLv RL 158 mX11_bestMend 1 := ⟨mn_X11_bestMend, tbk_5 190 rfl rfl, tbk_5 191 rfl rfl, tbk_5 192 rfl rfl⟩
set_option maxRecDepth 20000 in
theorem mn_X12_bestMend : MLn mX12_bestMend 1 := ⟨tbk_1 13 rfl rfl, tbk_9 153 rfl rfl, ne1_X12, ne2_X12, pd_5, Nat.le_of_ble_eq_true rfl, pn_X12⟩
set_option maxRecDepth 20000 in
theorem ml_L_161 : MLv RL 161 mX12_bestMend 1 := ⟨mn_X12_bestMend, tbk_9 150 rfl rfl, tbk_9 151 rfl rfl, tbk_9 152 rfl rfl⟩
set_option maxRecDepth 20000 in
theorem mn_X11_bestBy : MLn mX11_bestBy 1 := ⟨tbk_1 1 rfl rfl, tbk_5 206 rfl rfl, ne1_X11, ne2_X11, pd_5, Nat.le_of_ble_eq_true rfl, pn_X11⟩
set_option maxRecDepth 20000 in
theorem ml_L_162 : MLv RL 162 mX11_bestBy 1 := ⟨mn_X11_bestBy, tbk_5 203 rfl rfl, tbk_5 204 rfl rfl, tbk_5 205 rfl rfl⟩
set_option maxRecDepth 20000 in
theorem mn_X12_bestBy : MLn mX12_bestBy 1 := ⟨tbk_1 13 rfl rfl, tbk_9 157 rfl rfl, ne1_X12, ne2_X12, pd_5, Nat.le_of_ble_eq_true rfl, pn_X12⟩
set_option maxRecDepth 20000 in
theorem ml_L_165 : MLv RL 165 mX12_bestBy 1 := ⟨mn_X12_bestBy, tbk_9 154 rfl rfl, tbk_9 155 rfl rfl, tbk_9 156 rfl rfl⟩
set_option maxRecDepth 20000 in
theorem mn_X11_balance : MLn mX11_balance 1 := ⟨tbk_1 1 rfl rfl, tbk_5 210 rfl rfl, ne1_X11, ne2_X11, pd_5, Nat.le_of_ble_eq_true rfl, pn_X11⟩
set_option maxRecDepth 20000 in
theorem ml_L_166 : MLv RL 166 mX11_balance 1 := ⟨mn_X11_balance, tbk_5 207 rfl rfl, tbk_5 208 rfl rfl, tbk_5 209 rfl rfl⟩
set_option maxRecDepth 20000 in
theorem mn_X12_balance : MLn mX12_balance 1 := ⟨tbk_1 13 rfl rfl, tbk_9 161 rfl rfl, ne1_X12, ne2_X12, pd_5, Nat.le_of_ble_eq_true rfl, pn_X12⟩
set_option maxRecDepth 20000 in
theorem ml_L_169 : MLv RL 169 mX12_balance 1 := ⟨mn_X12_balance, tbk_9 158 rfl rfl, tbk_9 159 rfl rfl, tbk_9 160 rfl rfl⟩
set_option maxRecDepth 20000 in
theorem mn_X11_lost : MLn mX11_lost 0 := ⟨tbk_1 1 rfl rfl, tbk_5 225 rfl rfl, ne1_X11, ne2_X11, pd_40, Nat.le_of_ble_eq_true rfl, pn_X11⟩
set_option maxRecDepth 20000 in
theorem ml_L_170 : MLv RL 170 mX11_lost 0 := ⟨mn_X11_lost, tbk_5 222 rfl rfl, tbk_5 223 rfl rfl, tbk_5 224 rfl rfl⟩
set_option maxRecDepth 20000 in
theorem mn_X12_lost : MLn mX12_lost 0 := ⟨tbk_1 13 rfl rfl, tbk_9 165 rfl rfl, ne1_X12, ne2_X12, pd_40, Nat.le_of_ble_eq_true rfl, pn_X12⟩
set_option maxRecDepth 20000 in
theorem ml_L_173 : MLv RL 173 mX12_lost 0 := ⟨mn_X12_lost, tbk_9 162 rfl rfl, tbk_9 163 rfl rfl, tbk_9 164 rfl rfl⟩
set_option maxRecDepth 20000 in
theorem mn_X11_shorted : MLn mX11_shorted 1 := ⟨tbk_1 1 rfl rfl, tbk_5 229 rfl rfl, ne1_X11, ne2_X11, pd_5, Nat.le_of_ble_eq_true rfl, pn_X11⟩
set_option maxRecDepth 20000 in
theorem ml_L_174 : MLv RL 174 mX11_shorted 1 := ⟨mn_X11_shorted, tbk_5 226 rfl rfl, tbk_5 227 rfl rfl, tbk_5 228 rfl rfl⟩
set_option maxRecDepth 20000 in
theorem mn_X12_shorted : MLn mX12_shorted 1 := ⟨tbk_1 13 rfl rfl, tbk_9 169 rfl rfl, ne1_X12, ne2_X12, pd_5, Nat.le_of_ble_eq_true rfl, pn_X12⟩
set_option maxRecDepth 20000 in
theorem ml_L_177 : MLv RL 177 mX12_shorted 1 := ⟨mn_X12_shorted, tbk_9 166 rfl rfl, tbk_9 167 rfl rfl, tbk_9 168 rfl rfl⟩
set_option maxRecDepth 20000 in
theorem mn_X11_held : MLn mX11_held 2 := ⟨tbk_1 1 rfl rfl, tbk_5 238 rfl rfl, ne1_X11, ne2_X11, pd_9, Nat.le_of_ble_eq_true rfl, pn_X11⟩
set_option maxRecDepth 20000 in
theorem ml_L_178 : MLv RL 178 mX11_held 2 := ⟨mn_X11_held, tbk_5 235 rfl rfl, tbk_5 236 rfl rfl, tbk_5 237 rfl rfl⟩
set_option maxRecDepth 20000 in
theorem mn_X12_held : MLn mX12_held 2 := ⟨tbk_1 13 rfl rfl, tbk_9 174 rfl rfl, ne1_X12, ne2_X12, pd_9, Nat.le_of_ble_eq_true rfl, pn_X12⟩
set_option maxRecDepth 20000 in
theorem ml_L_181 : MLv RL 181 mX12_held 2 := ⟨mn_X12_held, tbk_9 171 rfl rfl, tbk_9 172 rfl rfl, tbk_9 173 rfl rfl⟩
set_option maxRecDepth 20000 in
theorem mn_X11_welds : MLn mX11_welds 0 := ⟨tbk_1 1 rfl rfl, tbk_6 15 rfl rfl, ne1_X11, ne2_X11, pd_40, Nat.le_of_ble_eq_true rfl, pn_X11⟩
set_option maxRecDepth 20000 in
theorem ml_L_182 : MLv RL 182 mX11_welds 0 := ⟨mn_X11_welds, tbk_6 12 rfl rfl, tbk_6 13 rfl rfl, tbk_6 14 rfl rfl⟩
set_option maxRecDepth 20000 in
theorem mn_X12_welds : MLn mX12_welds 0 := ⟨tbk_1 13 rfl rfl, tbk_9 178 rfl rfl, ne1_X12, ne2_X12, pd_40, Nat.le_of_ble_eq_true rfl, pn_X12⟩
set_option maxRecDepth 20000 in
theorem ml_L_185 : MLv RL 185 mX12_welds 0 := ⟨mn_X12_welds, tbk_9 175 rfl rfl, tbk_9 176 rfl rfl, tbk_9 177 rfl rfl⟩
set_option maxRecDepth 20000 in
theorem mn_X11_order : MLn mX11_order 0 := ⟨tbk_1 1 rfl rfl, tbk_6 53 rfl rfl, ne1_X11, ne2_X11, pd_40, Nat.le_of_ble_eq_true rfl, pn_X11⟩
set_option maxRecDepth 20000 in
theorem ml_L_186 : MLv RL 186 mX11_order 0 := ⟨mn_X11_order, tbk_6 50 rfl rfl, tbk_6 51 rfl rfl, tbk_6 52 rfl rfl⟩
set_option maxRecDepth 20000 in
theorem mn_X12_order : MLn mX12_order 0 := ⟨tbk_1 13 rfl rfl, tbk_9 194 rfl rfl, ne1_X12, ne2_X12, pd_40, Nat.le_of_ble_eq_true rfl, pn_X12⟩
set_option maxRecDepth 20000 in
theorem ml_L_189 : MLv RL 189 mX12_order 0 := ⟨mn_X12_order, tbk_9 191 rfl rfl, tbk_9 192 rfl rfl, tbk_9 193 rfl rfl⟩
set_option maxRecDepth 20000 in
theorem mn_X11_orderAt : MLn mX11_orderAt 1 := ⟨tbk_1 1 rfl rfl, tbk_6 97 rfl rfl, ne1_X11, ne2_X11, pd_5, Nat.le_of_ble_eq_true rfl, pn_X11⟩
set_option maxRecDepth 20000 in
theorem ml_L_190 : MLv RL 190 mX11_orderAt 1 := ⟨mn_X11_orderAt, tbk_6 94 rfl rfl, tbk_6 95 rfl rfl, tbk_6 96 rfl rfl⟩
set_option maxRecDepth 20000 in
theorem mn_X12_orderAt : MLn mX12_orderAt 1 := ⟨tbk_1 13 rfl rfl, tbk_9 214 rfl rfl, ne1_X12, ne2_X12, pd_5, Nat.le_of_ble_eq_true rfl, pn_X12⟩
set_option maxRecDepth 20000 in
theorem ml_L_193 : MLv RL 193 mX12_orderAt 1 := ⟨mn_X12_orderAt, tbk_9 211 rfl rfl, tbk_9 212 rfl rfl, tbk_9 213 rfl rfl⟩
set_option maxRecDepth 20000 in
theorem mn_X11_check : MLn mX11_check 0 := ⟨tbk_1 1 rfl rfl, tbk_6 101 rfl rfl, ne1_X11, ne2_X11, pd_40, Nat.le_of_ble_eq_true rfl, pn_X11⟩
set_option maxRecDepth 20000 in
theorem ml_L_194 : MLv RL 194 mX11_check 0 := ⟨mn_X11_check, tbk_6 98 rfl rfl, tbk_6 99 rfl rfl, tbk_6 100 rfl rfl⟩
set_option maxRecDepth 20000 in
theorem mn_X12_check : MLn mX12_check 0 := ⟨tbk_1 13 rfl rfl, tbk_9 218 rfl rfl, ne1_X12, ne2_X12, pd_40, Nat.le_of_ble_eq_true rfl, pn_X12⟩
set_option maxRecDepth 20000 in
theorem ml_L_197 : MLv RL 197 mX12_check 0 := ⟨mn_X12_check, tbk_9 215 rfl rfl, tbk_9 216 rfl rfl, tbk_9 217 rfl rfl⟩
set_option maxRecDepth 20000 in
theorem mn_X11_image : MLn mX11_image 1 := ⟨tbk_1 1 rfl rfl, tbk_6 110 rfl rfl, ne1_X11, ne2_X11, pd_4, Nat.le_of_ble_eq_true rfl, pn_X11⟩
set_option maxRecDepth 20000 in
theorem ml_L_198 : MLv RL 198 mX11_image 1 := ⟨mn_X11_image, tbk_6 107 rfl rfl, tbk_6 108 rfl rfl, tbk_6 109 rfl rfl⟩
set_option maxRecDepth 20000 in
theorem mn_X12_image : MLn mX12_image 1 := ⟨tbk_1 13 rfl rfl, tbk_9 222 rfl rfl, ne1_X12, ne2_X12, pd_4, Nat.le_of_ble_eq_true rfl, pn_X12⟩
set_option maxRecDepth 20000 in
theorem ml_L_201 : MLv RL 201 mX12_image 1 := ⟨mn_X12_image, tbk_9 219 rfl rfl, tbk_9 220 rfl rfl, tbk_9 221 rfl rfl⟩
set_option maxRecDepth 20000 in
theorem mn_X11_restore : MLn mX11_restore 1 := ⟨tbk_1 1 rfl rfl, tbk_6 125 rfl rfl, ne1_X11, ne2_X11, pd_4, Nat.le_of_ble_eq_true rfl, pn_X11⟩
set_option maxRecDepth 20000 in
theorem ml_L_202 : MLv RL 202 mX11_restore 1 := ⟨mn_X11_restore, tbk_6 122 rfl rfl, tbk_6 123 rfl rfl, tbk_6 124 rfl rfl⟩
set_option maxRecDepth 20000 in
theorem mn_X12_restore : MLn mX12_restore 1 := ⟨tbk_1 13 rfl rfl, tbk_9 226 rfl rfl, ne1_X12, ne2_X12, pd_4, Nat.le_of_ble_eq_true rfl, pn_X12⟩
set_option maxRecDepth 20000 in
theorem ml_L_205 : MLv RL 205 mX12_restore 1 := ⟨mn_X12_restore, tbk_9 223 rfl rfl, tbk_9 224 rfl rfl, tbk_9 225 rfl rfl⟩
set_option maxRecDepth 20000 in
theorem mn_X11_count : MLn mX11_count 1 := ⟨tbk_1 1 rfl rfl, tbk_6 129 rfl rfl, ne1_X11, ne2_X11, pd_5, Nat.le_of_ble_eq_true rfl, pn_X11⟩
set_option maxRecDepth 20000 in
theorem ml_L_206 : MLv RL 206 mX11_count 1 := ⟨mn_X11_count, tbk_6 126 rfl rfl, tbk_6 127 rfl rfl, tbk_6 128 rfl rfl⟩
set_option maxRecDepth 20000 in
theorem mn_X12_count : MLn mX12_count 1 := ⟨tbk_1 13 rfl rfl, tbk_9 230 rfl rfl, ne1_X12, ne2_X12, pd_5, Nat.le_of_ble_eq_true rfl, pn_X12⟩
set_option maxRecDepth 20000 in
theorem ml_L_209 : MLv RL 209 mX12_count 1 := ⟨mn_X12_count, tbk_9 227 rfl rfl, tbk_9 228 rfl rfl, tbk_9 229 rfl rfl⟩
set_option maxRecDepth 20000 in
theorem mn_X12_four : MLn mX12_four 1 := ⟨tbk_1 13 rfl rfl, tbk_6 239 rfl rfl, ne1_X12, ne2_X12, pd_1, Nat.le_of_ble_eq_true rfl, pn_X12⟩
set_option maxRecDepth 20000 in
theorem ml_X12_10 : MLv RX12 10 mX12_four 1 := ⟨mn_X12_four, tbk_6 235 rfl rfl, tbk_6 237 rfl rfl, tb_mem 56 rfl rfl⟩
set_option maxRecDepth 20000 in
theorem mn_X12_plainHouse : MLn mX12_plainHouse 0 := ⟨tbk_1 13 rfl rfl, tbk_7 35 rfl rfl, ne1_X12, ne2_X12, pd_0, Nat.le_of_ble_eq_true rfl, pn_X12⟩
set_option maxRecDepth 20000 in
theorem ml_X12_217 : MLv RX12 217 mX12_plainHouse 0 := ⟨mn_X12_plainHouse, tbk_7 32 rfl rfl, tbk_7 34 rfl rfl, tb_mem 57 rfl rfl⟩
set_option maxRecDepth 20000 in
theorem mn_X12_peek : MLn mX12_peek 0 := ⟨tbk_1 13 rfl rfl, tbk_8 59 rfl rfl, ne1_X12, ne2_X12, pd_40, Nat.le_of_ble_eq_true rfl, pn_X12⟩
set_option maxRecDepth 20000 in
theorem ml_X12_220 : MLv RX12 220 mX12_peek 0 := ⟨mn_X12_peek, tbk_8 56 rfl rfl, tbk_8 58 rfl rfl, tb_mem 60 rfl rfl⟩
set_option maxRecDepth 20000 in
theorem mn_X12_isSmall : MLn mX12_isSmall 1 := ⟨tbk_1 13 rfl rfl, tbk_8 62 rfl rfl, ne1_X12, ne2_X12, pd_4, Nat.le_of_ble_eq_true rfl, pn_X12⟩
set_option maxRecDepth 20000 in
theorem ml_X12_233 : MLs RX12 233 mX12_isSmall 1 := ⟨mn_X12_isSmall, tbk_8 60 rfl rfl, tbk_8 61 rfl rfl⟩
set_option maxRecDepth 20000 in
theorem mn_X12_isDigit : MLn mX12_isDigit 1 := ⟨tbk_1 13 rfl rfl, tbk_8 65 rfl rfl, ne1_X12, ne2_X12, pd_4, Nat.le_of_ble_eq_true rfl, pn_X12⟩
set_option maxRecDepth 20000 in
theorem ml_X12_237 : MLs RX12 237 mX12_isDigit 1 := ⟨mn_X12_isDigit, tbk_8 63 rfl rfl, tbk_8 64 rfl rfl⟩
set_option maxRecDepth 20000 in
theorem mn_X12_isSign : MLn mX12_isSign 1 := ⟨tbk_1 13 rfl rfl, tbk_8 108 rfl rfl, ne1_X12, ne2_X12, pd_4, Nat.le_of_ble_eq_true rfl, pn_X12⟩
set_option maxRecDepth 20000 in
theorem ml_X12_253 : MLv RX12 253 mX12_isSign 1 := ⟨mn_X12_isSign, tbk_8 105 rfl rfl, tbk_8 107 rfl rfl, tb_mem 70 rfl rfl⟩
set_option maxRecDepth 20000 in
theorem mn_X12_bad : MLn mX12_bad 1 := ⟨tbk_1 13 rfl rfl, tbk_8 81 rfl rfl, ne1_X12, ne2_X12, pd_4, Nat.le_of_ble_eq_true rfl, pn_X12⟩
set_option maxRecDepth 20000 in
theorem ml_X12_256 : MLv RX12 256 mX12_bad 1 := ⟨mn_X12_bad, tbk_8 78 rfl rfl, tbk_8 80 rfl rfl, tb_mem 64 rfl rfl⟩
set_option maxRecDepth 20000 in
theorem mn_X12_next : MLn mX12_next 0 := ⟨tbk_1 13 rfl rfl, tbk_8 55 rfl rfl, ne1_X12, ne2_X12, pd_0, Nat.le_of_ble_eq_true rfl, pn_X12⟩
set_option maxRecDepth 20000 in
theorem ml_X12_259 : MLv RX12 259 mX12_next 0 := ⟨mn_X12_next, tbk_8 52 rfl rfl, tbk_8 54 rfl rfl, tb_mem 59 rfl rfl⟩
set_option maxRecDepth 20000 in
theorem mn_X12_isIn : MLn mX12_isIn 3 := ⟨tbk_1 13 rfl rfl, tbk_8 100 rfl rfl, ne1_X12, ne2_X12, pd_6, Nat.le_of_ble_eq_true rfl, pn_X12⟩
set_option maxRecDepth 20000 in
theorem ml_X12_262 : MLs RX12 262 mX12_isIn 3 := ⟨mn_X12_isIn, tbk_8 98 rfl rfl, tbk_8 99 rfl rfl⟩
set_option maxRecDepth 20000 in
theorem mn_X12_isName : MLn mX12_isName 0 := ⟨tbk_1 13 rfl rfl, tbk_8 85 rfl rfl, ne1_X12, ne2_X12, pd_29, Nat.le_of_ble_eq_true rfl, pn_X12⟩
set_option maxRecDepth 20000 in
theorem ml_X12_269 : MLv RX12 269 mX12_isName 0 := ⟨mn_X12_isName, tbk_8 82 rfl rfl, tbk_8 84 rfl rfl, tb_mem 65 rfl rfl⟩
set_option maxRecDepth 20000 in
theorem mn_X12_isTold : MLn mX12_isTold 2 := ⟨tbk_1 13 rfl rfl, tbk_8 89 rfl rfl, ne1_X12, ne2_X12, pd_14, Nat.le_of_ble_eq_true rfl, pn_X12⟩
set_option maxRecDepth 20000 in
theorem ml_X12_273 : MLv RX12 273 mX12_isTold 2 := ⟨mn_X12_isTold, tbk_8 86 rfl rfl, tbk_8 88 rfl rfl, tb_mem 66 rfl rfl⟩
set_option maxRecDepth 20000 in
theorem mn_X12_takes : MLn mX12_takes 2 := ⟨tbk_1 13 rfl rfl, tbk_8 97 rfl rfl, ne1_X12, ne2_X12, pd_14, Nat.le_of_ble_eq_true rfl, pn_X12⟩
set_option maxRecDepth 20000 in
theorem ml_X12_280 : MLv RX12 280 mX12_takes 2 := ⟨mn_X12_takes, tbk_8 94 rfl rfl, tbk_8 96 rfl rfl, tb_mem 68 rfl rfl⟩
theorem pd_41 : (parseMethodDescriptor "(J)Z").map (fun d => d.parameters.length) = some 1 := by decide +kernel
set_option maxRecDepth 20000 in
theorem mn_X12_isWord : MLn mX12_isWord 1 := ⟨tbk_1 13 rfl rfl, tbk_8 73 rfl rfl, ne1_X12, ne2_X12, pd_41, Nat.le_of_ble_eq_true rfl, pn_X12⟩
set_option maxRecDepth 20000 in
theorem ml_X12_283 : MLv RX12 283 mX12_isWord 1 := ⟨mn_X12_isWord, tbk_8 70 rfl rfl, tbk_8 72 rfl rfl, tb_mem 62 rfl rfl⟩
set_option maxRecDepth 20000 in
theorem mn_X12_named : MLn mX12_named 3 := ⟨tbk_1 13 rfl rfl, tbk_8 77 rfl rfl, ne1_X12, ne2_X12, pd_6, Nat.le_of_ble_eq_true rfl, pn_X12⟩
set_option maxRecDepth 20000 in
theorem ml_X12_287 : MLv RX12 287 mX12_named 3 := ⟨mn_X12_named, tbk_8 74 rfl rfl, tbk_8 76 rfl rfl, tb_mem 63 rfl rfl⟩
set_option maxRecDepth 20000 in
theorem mn_X12_told : MLn mX12_told 3 := ⟨tbk_1 13 rfl rfl, tbk_8 93 rfl rfl, ne1_X12, ne2_X12, pd_6, Nat.le_of_ble_eq_true rfl, pn_X12⟩
set_option maxRecDepth 20000 in
theorem ml_X12_290 : MLv RX12 290 mX12_told 3 := ⟨mn_X12_told, tbk_8 90 rfl rfl, tbk_8 92 rfl rfl, tb_mem 67 rfl rfl⟩
set_option maxRecDepth 20000 in
theorem mn_X12_taken : MLn mX12_taken 1 := ⟨tbk_1 13 rfl rfl, tbk_8 51 rfl rfl, ne1_X12, ne2_X12, pd_1, Nat.le_of_ble_eq_true rfl, pn_X12⟩
set_option maxRecDepth 20000 in
theorem ml_X12_292 : MLv RX12 292 mX12_taken 1 := ⟨mn_X12_taken, tbk_8 48 rfl rfl, tbk_8 50 rfl rfl, tb_mem 58 rfl rfl⟩
set_option maxRecDepth 20000 in
theorem mn_X12_line : MLn mX12_line 0 := ⟨tbk_1 13 rfl rfl, tbk_8 69 rfl rfl, ne1_X12, ne2_X12, pd_29, Nat.le_of_ble_eq_true rfl, pn_X12⟩
set_option maxRecDepth 20000 in
theorem ml_X12_298 : MLv RX12 298 mX12_line 0 := ⟨mn_X12_line, tbk_8 66 rfl rfl, tbk_8 68 rfl rfl, tb_mem 61 rfl rfl⟩
set_option maxRecDepth 20000 in
theorem mn_X12_sign : MLn mX12_sign 1 := ⟨tbk_1 13 rfl rfl, tbk_8 104 rfl rfl, ne1_X12, ne2_X12, pd_4, Nat.le_of_ble_eq_true rfl, pn_X12⟩
set_option maxRecDepth 20000 in
theorem ml_X12_301 : MLv RX12 301 mX12_sign 1 := ⟨mn_X12_sign, tbk_8 101 rfl rfl, tbk_8 103 rfl rfl, tb_mem 69 rfl rfl⟩
set_option maxRecDepth 20000 in
theorem mn_X12_isCell : MLn mX12_isCell 1 := ⟨tbk_1 13 rfl rfl, tbk_8 124 rfl rfl, ne1_X12, ne2_X12, pd_4, Nat.le_of_ble_eq_true rfl, pn_X12⟩
set_option maxRecDepth 20000 in
theorem ml_X12_304 : MLv RX12 304 mX12_isCell 1 := ⟨mn_X12_isCell, tbk_8 121 rfl rfl, tbk_8 123 rfl rfl, tb_mem 71 rfl rfl⟩
set_option maxRecDepth 20000 in
theorem mn_X12_restAhead : MLn mX12_restAhead 2 := ⟨tbk_1 13 rfl rfl, tbk_8 132 rfl rfl, ne1_X12, ne2_X12, pd_9, Nat.le_of_ble_eq_true rfl, pn_X12⟩
set_option maxRecDepth 20000 in
theorem ml_X12_307 : MLv RX12 307 mX12_restAhead 2 := ⟨mn_X12_restAhead, tbk_8 129 rfl rfl, tbk_8 131 rfl rfl, tb_mem 72 rfl rfl⟩
set_option maxRecDepth 20000 in
theorem mn_X12_trueOf : MLn mX12_trueOf 1 := ⟨tbk_1 13 rfl rfl, tbk_8 148 rfl rfl, ne1_X12, ne2_X12, pd_1, Nat.le_of_ble_eq_true rfl, pn_X12⟩
set_option maxRecDepth 20000 in
theorem ml_X12_311 : MLv RX12 311 mX12_trueOf 1 := ⟨mn_X12_trueOf, tbk_8 145 rfl rfl, tbk_8 147 rfl rfl, tb_mem 75 rfl rfl⟩
set_option maxRecDepth 20000 in
theorem mn_X12_firstOn : MLn mX12_firstOn 2 := ⟨tbk_1 13 rfl rfl, tbk_8 152 rfl rfl, ne1_X12, ne2_X12, pd_9, Nat.le_of_ble_eq_true rfl, pn_X12⟩
set_option maxRecDepth 20000 in
theorem ml_X12_314 : MLv RX12 314 mX12_firstOn 2 := ⟨mn_X12_firstOn, tbk_8 149 rfl rfl, tbk_8 151 rfl rfl, tb_mem 76 rfl rfl⟩
set_option maxRecDepth 20000 in
theorem mn_X12_middle : MLn mX12_middle 2 := ⟨tbk_1 13 rfl rfl, tbk_8 156 rfl rfl, ne1_X12, ne2_X12, pd_9, Nat.le_of_ble_eq_true rfl, pn_X12⟩
set_option maxRecDepth 20000 in
theorem ml_X12_317 : MLv RX12 317 mX12_middle 2 := ⟨mn_X12_middle, tbk_8 153 rfl rfl, tbk_8 155 rfl rfl, tb_mem 77 rfl rfl⟩
theorem pd_42 : (parseMethodDescriptor "(Z)Z").map (fun d => d.parameters.length) = some 1 := by decide +kernel
set_option maxRecDepth 20000 in
theorem mn_X12_throwsIf : MLn mX12_throwsIf 1 := ⟨tbk_1 13 rfl rfl, tbk_8 140 rfl rfl, ne1_X12, ne2_X12, pd_42, Nat.le_of_ble_eq_true rfl, pn_X12⟩
set_option maxRecDepth 20000 in
theorem ml_X12_320 : MLv RX12 320 mX12_throwsIf 1 := ⟨mn_X12_throwsIf, tbk_8 137 rfl rfl, tbk_8 139 rfl rfl, tb_mem 73 rfl rfl⟩
set_option maxRecDepth 20000 in
theorem mn_X12_settle : MLn mX12_settle 0 := ⟨tbk_1 13 rfl rfl, tbk_8 144 rfl rfl, ne1_X12, ne2_X12, pd_0, Nat.le_of_ble_eq_true rfl, pn_X12⟩
set_option maxRecDepth 20000 in
theorem ml_X12_324 : MLv RX12 324 mX12_settle 0 := ⟨mn_X12_settle, tbk_8 141 rfl rfl, tbk_8 143 rfl rfl, tb_mem 74 rfl rfl⟩
set_option maxRecDepth 20000 in
theorem mn_X12_flowOf : MLn mX12_flowOf 1 := ⟨tbk_1 13 rfl rfl, tbk_8 164 rfl rfl, ne1_X12, ne2_X12, pd_5, Nat.le_of_ble_eq_true rfl, pn_X12⟩
set_option maxRecDepth 20000 in
theorem ml_X12_328 : MLv RX12 328 mX12_flowOf 1 := ⟨mn_X12_flowOf, tbk_8 161 rfl rfl, tbk_8 163 rfl rfl, tb_mem 78 rfl rfl⟩
set_option maxRecDepth 20000 in
theorem mn_X12_packOf : MLn mX12_packOf 1 := ⟨tbk_1 13 rfl rfl, tbk_8 169 rfl rfl, ne1_X12, ne2_X12, pd_5, Nat.le_of_ble_eq_true rfl, pn_X12⟩
set_option maxRecDepth 20000 in
theorem ml_X12_332 : MLv RX12 332 mX12_packOf 1 := ⟨mn_X12_packOf, tbk_8 166 rfl rfl, tbk_8 168 rfl rfl, tb_mem 79 rfl rfl⟩
set_option maxRecDepth 20000 in
theorem mn_X12_plain : MLn mX12_plain 1 := ⟨tbk_1 13 rfl rfl, tbk_8 187 rfl rfl, ne1_X12, ne2_X12, pd_5, Nat.le_of_ble_eq_true rfl, pn_X12⟩
set_option maxRecDepth 20000 in
theorem ml_X12_335 : MLs RX12 335 mX12_plain 1 := ⟨mn_X12_plain, tbk_8 185 rfl rfl, tbk_8 186 rfl rfl⟩
set_option maxRecDepth 20000 in
theorem mn_X12_falls : MLn mX12_falls 1 := ⟨tbk_1 13 rfl rfl, tbk_8 181 rfl rfl, ne1_X12, ne2_X12, pd_4, Nat.le_of_ble_eq_true rfl, pn_X12⟩
set_option maxRecDepth 20000 in
theorem ml_X12_344 : MLv RX12 344 mX12_falls 1 := ⟨mn_X12_falls, tbk_8 178 rfl rfl, tbk_8 180 rfl rfl, tb_mem 80 rfl rfl⟩
set_option maxRecDepth 20000 in
theorem mn_X12_common : MLn mX12_common 2 := ⟨tbk_1 13 rfl rfl, tbk_8 184 rfl rfl, ne1_X12, ne2_X12, pd_9, Nat.le_of_ble_eq_true rfl, pn_X12⟩
set_option maxRecDepth 20000 in
theorem ml_X12_347 : MLs RX12 347 mX12_common 2 := ⟨mn_X12_common, tbk_8 182 rfl rfl, tbk_8 183 rfl rfl⟩
set_option maxRecDepth 20000 in
theorem mn_X12_liesOf : MLn mX12_liesOf 1 := ⟨tbk_1 13 rfl rfl, tbk_8 195 rfl rfl, ne1_X12, ne2_X12, pd_5, Nat.le_of_ble_eq_true rfl, pn_X12⟩
set_option maxRecDepth 20000 in
theorem ml_X12_350 : MLv RX12 350 mX12_liesOf 1 := ⟨mn_X12_liesOf, tbk_8 192 rfl rfl, tbk_8 194 rfl rfl, tb_mem 81 rfl rfl⟩
set_option maxRecDepth 20000 in
theorem mn_X12_binds : MLn mX12_binds 1 := ⟨tbk_1 13 rfl rfl, tbk_8 234 rfl rfl, ne1_X12, ne2_X12, pd_5, Nat.le_of_ble_eq_true rfl, pn_X12⟩
set_option maxRecDepth 20000 in
theorem ml_X12_359 : MLs RX12 359 mX12_binds 1 := ⟨mn_X12_binds, tbk_8 232 rfl rfl, tbk_8 233 rfl rfl⟩
set_option maxRecDepth 20000 in
theorem mn_X12_write : MLn mX12_write 3 := ⟨tbk_1 13 rfl rfl, tbk_8 227 rfl rfl, ne1_X12, ne2_X12, pd_16, Nat.le_of_ble_eq_true rfl, pn_X12⟩
set_option maxRecDepth 20000 in
theorem ml_X12_362 : MLv RX12 362 mX12_write 3 := ⟨mn_X12_write, tbk_8 224 rfl rfl, tbk_8 226 rfl rfl, tb_mem 87 rfl rfl⟩
set_option maxRecDepth 20000 in
theorem mn_X12_one : MLn mX12_one 0 := ⟨tbk_1 13 rfl rfl, tbk_8 211 rfl rfl, ne1_X12, ne2_X12, pd_29, Nat.le_of_ble_eq_true rfl, pn_X12⟩
set_option maxRecDepth 20000 in
theorem ml_X12_366 : MLv RX12 366 mX12_one 0 := ⟨mn_X12_one, tbk_8 208 rfl rfl, tbk_8 210 rfl rfl, tb_mem 83 rfl rfl⟩
set_option maxRecDepth 20000 in
theorem mn_X12_isOpen : MLn mX12_isOpen 0 := ⟨tbk_1 13 rfl rfl, tbk_8 238 rfl rfl, ne1_X12, ne2_X12, pd_29, Nat.le_of_ble_eq_true rfl, pn_X12⟩
set_option maxRecDepth 20000 in
theorem ml_X12_369 : MLv RX12 369 mX12_isOpen 0 := ⟨mn_X12_isOpen, tbk_8 235 rfl rfl, tbk_8 237 rfl rfl, tb_mem 89 rfl rfl⟩
set_option maxRecDepth 20000 in
theorem mn_X12_writeDown : MLn mX12_writeDown 1 := ⟨tbk_1 13 rfl rfl, tbk_8 231 rfl rfl, ne1_X12, ne2_X12, pd_1, Nat.le_of_ble_eq_true rfl, pn_X12⟩
set_option maxRecDepth 20000 in
theorem ml_X12_372 : MLv RX12 372 mX12_writeDown 1 := ⟨mn_X12_writeDown, tbk_8 228 rfl rfl, tbk_8 230 rfl rfl, tb_mem 88 rfl rfl⟩
set_option maxRecDepth 20000 in
theorem mn_X12_atom : MLn mX12_atom 0 := ⟨tbk_1 13 rfl rfl, tbk_8 215 rfl rfl, ne1_X12, ne2_X12, pd_40, Nat.le_of_ble_eq_true rfl, pn_X12⟩
set_option maxRecDepth 20000 in
theorem ml_X12_375 : MLv RX12 375 mX12_atom 0 := ⟨mn_X12_atom, tbk_8 212 rfl rfl, tbk_8 214 rfl rfl, tb_mem 84 rfl rfl⟩
set_option maxRecDepth 20000 in
theorem mn_X12_open : MLn mX12_open 0 := ⟨tbk_1 13 rfl rfl, tbk_8 219 rfl rfl, ne1_X12, ne2_X12, pd_40, Nat.le_of_ble_eq_true rfl, pn_X12⟩
set_option maxRecDepth 20000 in
theorem ml_X12_381 : MLv RX12 381 mX12_open 0 := ⟨mn_X12_open, tbk_8 216 rfl rfl, tbk_8 218 rfl rfl, tb_mem 85 rfl rfl⟩
set_option maxRecDepth 20000 in
theorem mn_X12_asks : MLn mX12_asks 1 := ⟨tbk_1 13 rfl rfl, tbk_8 223 rfl rfl, ne1_X12, ne2_X12, pd_4, Nat.le_of_ble_eq_true rfl, pn_X12⟩
set_option maxRecDepth 20000 in
theorem ml_X12_384 : MLv RX12 384 mX12_asks 1 := ⟨mn_X12_asks, tbk_8 220 rfl rfl, tbk_8 222 rfl rfl, tb_mem 86 rfl rfl⟩
set_option maxRecDepth 20000 in
theorem mn_X12_cond : MLn mX12_cond 0 := ⟨tbk_1 13 rfl rfl, tbk_8 207 rfl rfl, ne1_X12, ne2_X12, pd_29, Nat.le_of_ble_eq_true rfl, pn_X12⟩
set_option maxRecDepth 20000 in
theorem ml_X12_387 : MLv RX12 387 mX12_cond 0 := ⟨mn_X12_cond, tbk_8 204 rfl rfl, tbk_8 206 rfl rfl, tb_mem 82 rfl rfl⟩
set_option maxRecDepth 20000 in
theorem mn_X12_so : MLn mX12_so 4 := ⟨tbk_1 13 rfl rfl, tbk_9 10 rfl rfl, ne1_X12, ne2_X12, pd_21, Nat.le_of_ble_eq_true rfl, pn_X12⟩
set_option maxRecDepth 20000 in
theorem ml_X12_390 : MLv RX12 390 mX12_so 4 := ⟨mn_X12_so, tbk_9 7 rfl rfl, tbk_9 9 rfl rfl, tb_mem 91 rfl rfl⟩
set_option maxRecDepth 20000 in
theorem mn_X12_meetsOne : MLn mX12_meetsOne 1 := ⟨tbk_1 13 rfl rfl, tbk_9 6 rfl rfl, ne1_X12, ne2_X12, pd_4, Nat.le_of_ble_eq_true rfl, pn_X12⟩
set_option maxRecDepth 20000 in
theorem ml_X12_394 : MLv RX12 394 mX12_meetsOne 1 := ⟨mn_X12_meetsOne, tbk_9 3 rfl rfl, tbk_9 5 rfl rfl, tb_mem 90 rfl rfl⟩
set_option maxRecDepth 20000 in
theorem mn_X12_octet : MLn mX12_octet 1 := ⟨tbk_1 13 rfl rfl, tbk_9 22 rfl rfl, ne1_X12, ne2_X12, pd_5, Nat.le_of_ble_eq_true rfl, pn_X12⟩
set_option maxRecDepth 20000 in
theorem ml_X12_400 : MLv RX12 400 mX12_octet 1 := ⟨mn_X12_octet, tbk_9 19 rfl rfl, tbk_9 21 rfl rfl, tb_mem 93 rfl rfl⟩
set_option maxRecDepth 20000 in
theorem mn_X12_tells : MLn mX12_tells 2 := ⟨tbk_1 13 rfl rfl, tbk_9 18 rfl rfl, ne1_X12, ne2_X12, pd_14, Nat.le_of_ble_eq_true rfl, pn_X12⟩
set_option maxRecDepth 20000 in
theorem ml_X12_412 : MLv RX12 412 mX12_tells 2 := ⟨mn_X12_tells, tbk_9 15 rfl rfl, tbk_9 17 rfl rfl, tb_mem 92 rfl rfl⟩
set_option maxRecDepth 20000 in
theorem mn_X12_weigh : MLn mX12_weigh 1 := ⟨tbk_1 13 rfl rfl, tbk_9 26 rfl rfl, ne1_X12, ne2_X12, pd_1, Nat.le_of_ble_eq_true rfl, pn_X12⟩
set_option maxRecDepth 20000 in
theorem ml_X12_415 : MLv RX12 415 mX12_weigh 1 := ⟨mn_X12_weigh, tbk_9 23 rfl rfl, tbk_9 25 rfl rfl, tb_mem 94 rfl rfl⟩
set_option maxRecDepth 20000 in
theorem mn_X12_put : MLn mX12_put 3 := ⟨tbk_1 13 rfl rfl, tbk_9 30 rfl rfl, ne1_X12, ne2_X12, pd_16, Nat.le_of_ble_eq_true rfl, pn_X12⟩
set_option maxRecDepth 20000 in
theorem ml_X12_418 : MLv RX12 418 mX12_put 3 := ⟨mn_X12_put, tbk_9 27 rfl rfl, tbk_9 29 rfl rfl, tb_mem 95 rfl rfl⟩
set_option maxRecDepth 20000 in
theorem mn_X12_weakOf : MLn mX12_weakOf 1 := ⟨tbk_1 13 rfl rfl, tbk_9 54 rfl rfl, ne1_X12, ne2_X12, pd_5, Nat.le_of_ble_eq_true rfl, pn_X12⟩
set_option maxRecDepth 20000 in
theorem ml_X12_430 : MLv RX12 430 mX12_weakOf 1 := ⟨mn_X12_weakOf, tbk_9 51 rfl rfl, tbk_9 53 rfl rfl, tb_mem 98 rfl rfl⟩
set_option maxRecDepth 20000 in
theorem mn_X12_strongOf : MLn mX12_strongOf 1 := ⟨tbk_1 13 rfl rfl, tbk_9 58 rfl rfl, ne1_X12, ne2_X12, pd_5, Nat.le_of_ble_eq_true rfl, pn_X12⟩
set_option maxRecDepth 20000 in
theorem ml_X12_433 : MLv RX12 433 mX12_strongOf 1 := ⟨mn_X12_strongOf, tbk_9 55 rfl rfl, tbk_9 57 rfl rfl, tb_mem 99 rfl rfl⟩
set_option maxRecDepth 20000 in
theorem mn_X12_move : MLn mX12_move 2 := ⟨tbk_1 13 rfl rfl, tbk_9 62 rfl rfl, ne1_X12, ne2_X12, pd_15, Nat.le_of_ble_eq_true rfl, pn_X12⟩
set_option maxRecDepth 20000 in
theorem ml_X12_436 : MLv RX12 436 mX12_move 2 := ⟨mn_X12_move, tbk_9 59 rfl rfl, tbk_9 61 rfl rfl, tb_mem 100 rfl rfl⟩
set_option maxRecDepth 20000 in
theorem mn_X12_moveBack : MLn mX12_moveBack 2 := ⟨tbk_1 13 rfl rfl, tbk_9 66 rfl rfl, ne1_X12, ne2_X12, pd_15, Nat.le_of_ble_eq_true rfl, pn_X12⟩
set_option maxRecDepth 20000 in
theorem ml_X12_440 : MLv RX12 440 mX12_moveBack 2 := ⟨mn_X12_moveBack, tbk_9 63 rfl rfl, tbk_9 65 rfl rfl, tb_mem 101 rfl rfl⟩
set_option maxRecDepth 20000 in
theorem mn_X12_sort : MLn mX12_sort 0 := ⟨tbk_1 13 rfl rfl, tbk_9 46 rfl rfl, ne1_X12, ne2_X12, pd_0, Nat.le_of_ble_eq_true rfl, pn_X12⟩
set_option maxRecDepth 20000 in
theorem ml_X12_443 : MLv RX12 443 mX12_sort 0 := ⟨mn_X12_sort, tbk_9 43 rfl rfl, tbk_9 45 rfl rfl, tb_mem 96 rfl rfl⟩
set_option maxRecDepth 20000 in
theorem mn_X12_swapOne : MLn mX12_swapOne 1 := ⟨tbk_1 13 rfl rfl, tbk_9 50 rfl rfl, ne1_X12, ne2_X12, pd_4, Nat.le_of_ble_eq_true rfl, pn_X12⟩
set_option maxRecDepth 20000 in
theorem ml_X12_449 : MLv RX12 449 mX12_swapOne 1 := ⟨mn_X12_swapOne, tbk_9 47 rfl rfl, tbk_9 49 rfl rfl, tb_mem 97 rfl rfl⟩
set_option maxRecDepth 20000 in
theorem mn_X12_wide : MLn mX12_wide 1 := ⟨tbk_1 13 rfl rfl, tbk_9 110 rfl rfl, ne1_X12, ne2_X12, pd_5, Nat.le_of_ble_eq_true rfl, pn_X12⟩
set_option maxRecDepth 20000 in
theorem ml_X12_464 : MLv RX12 464 mX12_wide 1 := ⟨mn_X12_wide, tbk_9 107 rfl rfl, tbk_9 109 rfl rfl, tb_mem 105 rfl rfl⟩
set_option maxRecDepth 20000 in
theorem mn_X12_flowIn : MLn mX12_flowIn 2 := ⟨tbk_1 13 rfl rfl, tbk_9 114 rfl rfl, ne1_X12, ne2_X12, pd_9, Nat.le_of_ble_eq_true rfl, pn_X12⟩
set_option maxRecDepth 20000 in
theorem ml_X12_467 : MLv RX12 467 mX12_flowIn 2 := ⟨mn_X12_flowIn, tbk_9 111 rfl rfl, tbk_9 113 rfl rfl, tb_mem 106 rfl rfl⟩
set_option maxRecDepth 20000 in
theorem mn_X12_holdOf : MLn mX12_holdOf 2 := ⟨tbk_1 13 rfl rfl, tbk_9 106 rfl rfl, ne1_X12, ne2_X12, pd_9, Nat.le_of_ble_eq_true rfl, pn_X12⟩
set_option maxRecDepth 20000 in
theorem ml_X12_472 : MLv RX12 472 mX12_holdOf 2 := ⟨mn_X12_holdOf, tbk_9 103 rfl rfl, tbk_9 105 rfl rfl, tb_mem 104 rfl rfl⟩
set_option maxRecDepth 20000 in
theorem mn_X12_isPack : MLn mX12_isPack 1 := ⟨tbk_1 13 rfl rfl, tbk_9 98 rfl rfl, ne1_X12, ne2_X12, pd_4, Nat.le_of_ble_eq_true rfl, pn_X12⟩
set_option maxRecDepth 20000 in
theorem ml_X12_478 : MLv RX12 478 mX12_isPack 1 := ⟨mn_X12_isPack, tbk_9 95 rfl rfl, tbk_9 97 rfl rfl, tb_mem 102 rfl rfl⟩
set_option maxRecDepth 20000 in
theorem mn_X12_rowsIn : MLn mX12_rowsIn 1 := ⟨tbk_1 13 rfl rfl, tbk_9 102 rfl rfl, ne1_X12, ne2_X12, pd_5, Nat.le_of_ble_eq_true rfl, pn_X12⟩
set_option maxRecDepth 20000 in
theorem ml_X12_481 : MLv RX12 481 mX12_rowsIn 1 := ⟨mn_X12_rowsIn, tbk_9 99 rfl rfl, tbk_9 101 rfl rfl, tb_mem 103 rfl rfl⟩
set_option maxRecDepth 20000 in
theorem mn_X12_cyclesOf : MLn mX12_cyclesOf 2 := ⟨tbk_1 13 rfl rfl, tbk_9 118 rfl rfl, ne1_X12, ne2_X12, pd_9, Nat.le_of_ble_eq_true rfl, pn_X12⟩
set_option maxRecDepth 20000 in
theorem ml_X12_484 : MLv RX12 484 mX12_cyclesOf 2 := ⟨mn_X12_cyclesOf, tbk_9 115 rfl rfl, tbk_9 117 rfl rfl, tb_mem 107 rfl rfl⟩
set_option maxRecDepth 20000 in
theorem mn_X12_endOf : MLn mX12_endOf 1 := ⟨tbk_1 13 rfl rfl, tbk_9 133 rfl rfl, ne1_X12, ne2_X12, pd_5, Nat.le_of_ble_eq_true rfl, pn_X12⟩
set_option maxRecDepth 20000 in
theorem ml_X12_487 : MLv RX12 487 mX12_endOf 1 := ⟨mn_X12_endOf, tbk_9 130 rfl rfl, tbk_9 132 rfl rfl, tb_mem 108 rfl rfl⟩
set_option maxRecDepth 20000 in
theorem mn_X12_placeOf : MLn mX12_placeOf 2 := ⟨tbk_1 13 rfl rfl, tbk_9 145 rfl rfl, ne1_X12, ne2_X12, pd_9, Nat.le_of_ble_eq_true rfl, pn_X12⟩
set_option maxRecDepth 20000 in
theorem ml_X12_490 : MLv RX12 490 mX12_placeOf 2 := ⟨mn_X12_placeOf, tbk_9 142 rfl rfl, tbk_9 144 rfl rfl, tb_mem 109 rfl rfl⟩
set_option maxRecDepth 20000 in
theorem mn_X12_lastDay : MLn mX12_lastDay 1 := ⟨tbk_1 13 rfl rfl, tbk_9 149 rfl rfl, ne1_X12, ne2_X12, pd_5, Nat.le_of_ble_eq_true rfl, pn_X12⟩
set_option maxRecDepth 20000 in
theorem ml_X12_493 : MLv RX12 493 mX12_lastDay 1 := ⟨mn_X12_lastDay, tbk_9 146 rfl rfl, tbk_9 148 rfl rfl, tb_mem 110 rfl rfl⟩
set_option maxRecDepth 20000 in
theorem mn_X12_strip : MLn mX12_strip 0 := ⟨tbk_1 13 rfl rfl, tbk_9 186 rfl rfl, ne1_X12, ne2_X12, pd_40, Nat.le_of_ble_eq_true rfl, pn_X12⟩
set_option maxRecDepth 20000 in
theorem ml_X12_507 : MLv RX12 507 mX12_strip 0 := ⟨mn_X12_strip, tbk_9 183 rfl rfl, tbk_9 185 rfl rfl, tb_mem 112 rfl rfl⟩
set_option maxRecDepth 20000 in
theorem mn_X12_node : MLn mX12_node 0 := ⟨tbk_1 13 rfl rfl, tbk_9 190 rfl rfl, ne1_X12, ne2_X12, pd_29, Nat.le_of_ble_eq_true rfl, pn_X12⟩
set_option maxRecDepth 20000 in
theorem ml_X12_510 : MLv RX12 510 mX12_node 0 := ⟨mn_X12_node, tbk_9 187 rfl rfl, tbk_9 189 rfl rfl, tb_mem 113 rfl rfl⟩
set_option maxRecDepth 20000 in
theorem mn_X12_readStrip : MLn mX12_readStrip 0 := ⟨tbk_1 13 rfl rfl, tbk_9 182 rfl rfl, ne1_X12, ne2_X12, pd_29, Nat.le_of_ble_eq_true rfl, pn_X12⟩
set_option maxRecDepth 20000 in
theorem ml_X12_513 : MLv RX12 513 mX12_readStrip 0 := ⟨mn_X12_readStrip, tbk_9 179 rfl rfl, tbk_9 181 rfl rfl, tb_mem 111 rfl rfl⟩
set_option maxRecDepth 20000 in
theorem mn_X12_comes : MLn mX12_comes 4 := ⟨tbk_1 13 rfl rfl, tbk_9 210 rfl rfl, ne1_X12, ne2_X12, pd_7, Nat.le_of_ble_eq_true rfl, pn_X12⟩
set_option maxRecDepth 20000 in
theorem ml_X12_516 : MLv RX12 516 mX12_comes 4 := ⟨mn_X12_comes, tbk_9 207 rfl rfl, tbk_9 209 rfl rfl, tb_mem 117 rfl rfl⟩
set_option maxRecDepth 20000 in
theorem mn_X12_lift : MLn mX12_lift 1 := ⟨tbk_1 13 rfl rfl, tbk_9 206 rfl rfl, ne1_X12, ne2_X12, pd_1, Nat.le_of_ble_eq_true rfl, pn_X12⟩
set_option maxRecDepth 20000 in
theorem ml_X12_520 : MLv RX12 520 mX12_lift 1 := ⟨mn_X12_lift, tbk_9 203 rfl rfl, tbk_9 205 rfl rfl, tb_mem 116 rfl rfl⟩
set_option maxRecDepth 20000 in
theorem mn_X12_shorts : MLn mX12_shorts 2 := ⟨tbk_1 13 rfl rfl, tbk_9 202 rfl rfl, ne1_X12, ne2_X12, pd_14, Nat.le_of_ble_eq_true rfl, pn_X12⟩
set_option maxRecDepth 20000 in
theorem ml_X12_523 : MLv RX12 523 mX12_shorts 2 := ⟨mn_X12_shorts, tbk_9 199 rfl rfl, tbk_9 201 rfl rfl, tb_mem 115 rfl rfl⟩
set_option maxRecDepth 20000 in
theorem mn_X12_canNext : MLn mX12_canNext 2 := ⟨tbk_1 13 rfl rfl, tbk_9 198 rfl rfl, ne1_X12, ne2_X12, pd_14, Nat.le_of_ble_eq_true rfl, pn_X12⟩
set_option maxRecDepth 20000 in
theorem ml_X12_526 : MLv RX12 526 mX12_canNext 2 := ⟨mn_X12_canNext, tbk_9 195 rfl rfl, tbk_9 197 rfl rfl, tb_mem 114 rfl rfl⟩
set_option maxRecDepth 20000 in
theorem ko_X1_97 : Cond.constant RX1 97 (1000000 : Int32) ∈ TB := tbk_5 169 rfl rfl
set_option maxRecDepth 20000 in
theorem ko_X1_100 : Cond.constant RX1 100 (100000 : Int32) ∈ TB := tbk_5 171 rfl rfl
set_option maxRecDepth 20000 in
theorem ko_X1_103 : Cond.constant RX1 103 (100001 : Int32) ∈ TB := tbk_5 145 rfl rfl
set_option maxRecDepth 20000 in
theorem ko_X1_119 : Cond.constant RX1 119 (37000 : Int32) ∈ TB := tbk_5 234 rfl rfl
set_option maxRecDepth 20000 in
theorem ko_X8_47 : Cond.constant RX8 47 (1000000 : Int32) ∈ TB := tbk_4 227 rfl rfl
set_option maxRecDepth 20000 in
theorem ko_X12_327 : Cond.constant RX12 327 (1000000 : Int32) ∈ TB := tbk_8 165 rfl rfl
set_option maxRecDepth 20000 in
theorem ko_X12_477 : Cond.constant RX12 477 (100000 : Int32) ∈ TB := tbk_9 121 rfl rfl
set_option maxRecDepth 20000 in
theorem ko_X12_506 : Cond.constant RX12 506 (37000 : Int32) ∈ TB := tbk_9 170 rfl rfl
set_option maxRecDepth 20000 in
theorem kl_X1_90 : Cond.constantLong RX1 90 (10 : Int64) ∈ TB := tbk_5 168 rfl rfl
set_option maxRecDepth 20000 in
theorem kl_X1_98 : Cond.constantLong RX1 98 (1000000 : Int64) ∈ TB := tbk_5 170 rfl rfl
set_option maxRecDepth 20000 in
theorem kl_X1_101 : Cond.constantLong RX1 101 (100000 : Int64) ∈ TB := tbk_5 172 rfl rfl
set_option maxRecDepth 20000 in
theorem kl_X12_171 : Cond.constantLong RX12 171 (422608528232 : Int64) ∈ TB := tbk_7 9 rfl rfl
set_option maxRecDepth 20000 in
theorem kl_X12_173 : Cond.constantLong RX12 173 (6451064 : Int64) ∈ TB := tbk_7 10 rfl rfl
set_option maxRecDepth 20000 in
theorem kl_X12_175 : Cond.constantLong RX12 175 (1717658725 : Int64) ∈ TB := tbk_7 11 rfl rfl
set_option maxRecDepth 20000 in
theorem kl_X12_177 : Cond.constantLong RX12 177 (439905906546 : Int64) ∈ TB := tbk_7 12 rfl rfl
set_option maxRecDepth 20000 in
theorem kl_X12_179 : Cond.constantLong RX12 179 (422725379428 : Int64) ∈ TB := tbk_7 13 rfl rfl
set_option maxRecDepth 20000 in
theorem kl_X12_181 : Cond.constantLong RX12 181 (1718973285 : Int64) ∈ TB := tbk_7 14 rfl rfl
set_option maxRecDepth 20000 in
theorem kl_X12_183 : Cond.constantLong RX12 183 (474315584357 : Int64) ∈ TB := tbk_7 15 rfl rfl
set_option maxRecDepth 20000 in
theorem kl_X12_185 : Cond.constantLong RX12 185 (1818583403 : Int64) ∈ TB := tbk_7 16 rfl rfl
set_option maxRecDepth 20000 in
theorem kl_X12_187 : Cond.constantLong RX12 187 (1786080624 : Int64) ∈ TB := tbk_7 17 rfl rfl
set_option maxRecDepth 20000 in
theorem kl_X12_189 : Cond.constantLong RX12 189 (2002874989 : Int64) ∈ TB := tbk_7 18 rfl rfl
set_option maxRecDepth 20000 in
theorem kl_X12_191 : Cond.constantLong RX12 191 (28530 : Int64) ∈ TB := tbk_7 19 rfl rfl
set_option maxRecDepth 20000 in
theorem kl_X12_193 : Cond.constantLong RX12 193 (6385252 : Int64) ∈ TB := tbk_7 20 rfl rfl
set_option maxRecDepth 20000 in
theorem kl_X12_195 : Cond.constantLong RX12 195 (7237492 : Int64) ∈ TB := tbk_7 21 rfl rfl
set_option maxRecDepth 20000 in
theorem kl_X12_197 : Cond.constantLong RX12 197 (26990 : Int64) ∈ TB := tbk_7 22 rfl rfl
set_option maxRecDepth 20000 in
theorem kl_X12_199 : Cond.constantLong RX12 199 (1818846579 : Int64) ∈ TB := tbk_7 23 rfl rfl
set_option maxRecDepth 20000 in
theorem kl_X12_201 : Cond.constantLong RX12 201 (1970496868 : Int64) ∈ TB := tbk_7 24 rfl rfl
set_option maxRecDepth 20000 in
theorem kl_X12_203 : Cond.constantLong RX12 203 (1752132708 : Int64) ∈ TB := tbk_7 25 rfl rfl
set_option maxRecDepth 20000 in
theorem kl_X12_205 : Cond.constantLong RX12 205 (1885434739 : Int64) ∈ TB := tbk_7 26 rfl rfl
set_option maxRecDepth 20000 in
theorem kl_X12_207 : Cond.constantLong RX12 207 (126926792778084 : Int64) ∈ TB := tbk_7 27 rfl rfl
set_option maxRecDepth 20000 in
theorem kl_X12_209 : Cond.constantLong RX12 209 (1667591276 : Int64) ∈ TB := tbk_7 28 rfl rfl
set_option maxRecDepth 20000 in
theorem kl_X12_211 : Cond.constantLong RX12 211 (495874894192 : Int64) ∈ TB := tbk_7 29 rfl rfl
set_option maxRecDepth 20000 in
theorem kl_X12_213 : Cond.constantLong RX12 213 (418330731890 : Int64) ∈ TB := tbk_7 30 rfl rfl
set_option maxRecDepth 20000 in
theorem kl_X12_215 : Cond.constantLong RX12 215 (1852137842 : Int64) ∈ TB := tbk_7 31 rfl rfl
set_option maxRecDepth 20000 in
theorem kl_X12_470 : Cond.constantLong RX12 470 (10 : Int64) ∈ TB := tbk_9 119 rfl rfl
set_option maxRecDepth 20000 in
theorem kl_X12_475 : Cond.constantLong RX12 475 (1000000 : Int64) ∈ TB := tbk_9 120 rfl rfl
set_option maxRecDepth 20000 in
theorem lw_X0_18 : Cond.fieldLinkNest RX0 18 "DeadPacks" (lawN 2) "[I" "DeadPacks" ∈ lw_tbl := List.mem_of_getElem? (i := 212) rfl
set_option maxRecDepth 20000 in
theorem lw_X0_98 : Cond.fieldLinkNest RX0 98 "DeadPacks" (lawN 0) "[I" "DeadPacks" ∈ lw_tbl := List.mem_of_getElem? (i := 838) rfl
set_option maxRecDepth 20000 in
theorem lw_X0_101 : Cond.fieldLinkNest RX0 101 "DeadPacks" (lawN 1) "[I" "DeadPacks" ∈ lw_tbl := List.mem_of_getElem? (i := 840) rfl
