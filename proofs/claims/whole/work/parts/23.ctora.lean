theorem far_le {h : HI} {N N2 : Nat} (hn : N ≤ N2) (h0 : ∀ a q, N ≤ a → a < 1000000 → h a q = 0) : ∀ a q, N2 ≤ a → a < 1000000 → h a q = 0 := fun a q h1 h2 => h0 a q (Nat.le_trans hn h1) h2
theorem hu_far {h : HI} {N k : Nat} {j v : Int} (hk : k < N) (h0 : ∀ a q, N ≤ a → a < 1000000 → h a q = 0) : ∀ a q, N ≤ a → a < 1000000 → hu h k j v a q = 0 := fun a q h1 h2 => by rw [hu_ne a (by omega)]; exact h0 a q h1 h2
theorem hlu_far {h : HI} {N k : Nat} (hk : k < N) (h0 : ∀ a q, N ≤ a → a < 1000000 → h a q = 0) : ∀ a q, N ≤ a → a < 1000000 → hlu h k a q = 0 := fun a q h1 h2 => by rw [hlu_ne a (by omega)]; exact h0 a q h1 h2
set_option maxRecDepth 20000 in
theorem nw_X11_7 : NewW RX11 7 7 := ⟨_, _, cf7, tbk_1 32 rfl rfl, tbk_1 33 rfl rfl, tbk_1 2 rfl rfl, by decide +kernel⟩
set_option maxRecDepth 20000 in
theorem cl_X11_7 : Cond.classLink RX11 7 "DeadPacks$Tape" ∈ TB := tbk_1 32 rfl rfl
set_option maxRecDepth 20000 in
theorem nw_X11_16 : NewW RX11 16 5 := ⟨_, _, cf5, tbk_1 82 rfl rfl, tbk_1 83 rfl rfl, tbk_1 3 rfl rfl, by decide +kernel⟩
set_option maxRecDepth 20000 in
theorem cl_X11_16 : Cond.classLink RX11 16 "DeadPacks$Stock" ∈ TB := tbk_1 82 rfl rfl
set_option maxRecDepth 20000 in
theorem nw_X11_27 : NewW RX11 27 0 := ⟨_, _, cf0, tbk_2 41 rfl rfl, tbk_1 89 rfl rfl, tbk_1 4 rfl rfl, by decide +kernel⟩
set_option maxRecDepth 20000 in
theorem cl_X11_27 : Cond.classLink RX11 27 "DeadPacks$House" ∈ TB := tbk_2 41 rfl rfl
set_option maxRecDepth 20000 in
theorem nw_X11_34 : NewW RX11 34 3 := ⟨_, _, cf3, tbk_2 43 rfl rfl, tbk_1 134 rfl rfl, tbk_1 5 rfl rfl, by decide +kernel⟩
set_option maxRecDepth 20000 in
theorem cl_X11_34 : Cond.classLink RX11 34 "DeadPacks$Rule" ∈ TB := tbk_2 43 rfl rfl
set_option maxRecDepth 20000 in
theorem nw_X11_41 : NewW RX11 41 8 := ⟨_, _, cf8, tbk_2 45 rfl rfl, tbk_2 46 rfl rfl, tbk_1 7 rfl rfl, by decide +kernel⟩
set_option maxRecDepth 20000 in
theorem cl_X11_41 : Cond.classLink RX11 41 "DeadPacks$Truth" ∈ TB := tbk_2 45 rfl rfl
set_option maxRecDepth 20000 in
theorem nw_X11_52 : NewW RX11 52 2 := ⟨_, _, cf2, tbk_2 93 rfl rfl, tbk_2 94 rfl rfl, tbk_1 8 rfl rfl, by decide +kernel⟩
set_option maxRecDepth 20000 in
theorem cl_X11_52 : Cond.classLink RX11 52 "DeadPacks$Rows" ∈ TB := tbk_2 93 rfl rfl
set_option maxRecDepth 20000 in
theorem nw_X11_59 : NewW RX11 59 6 := ⟨_, _, cf6, tbk_2 159 rfl rfl, tbk_2 160 rfl rfl, tbk_1 9 rfl rfl, by decide +kernel⟩
set_option maxRecDepth 20000 in
theorem cl_X11_59 : Cond.classLink RX11 59 "DeadPacks$Swaps" ∈ TB := tbk_2 159 rfl rfl
set_option maxRecDepth 20000 in
theorem nw_X11_66 : NewW RX11 66 4 := ⟨_, _, cf4, tbk_2 203 rfl rfl, tbk_2 204 rfl rfl, tbk_1 10 rfl rfl, by decide +kernel⟩
set_option maxRecDepth 20000 in
theorem cl_X11_66 : Cond.classLink RX11 66 "DeadPacks$Share" ∈ TB := tbk_2 203 rfl rfl
set_option maxRecDepth 20000 in
theorem nw_X11_83 : NewW RX11 83 10 := ⟨_, _, cf10, tbk_2 238 rfl rfl, tbk_2 239 rfl rfl, tbk_1 11 rfl rfl, by decide +kernel⟩
set_option maxRecDepth 20000 in
theorem cl_X11_83 : Cond.classLink RX11 83 "DeadPacks$Welds" ∈ TB := tbk_2 238 rfl rfl
set_option maxRecDepth 20000 in
theorem nw_X11_93 : NewW RX11 93 9 := ⟨_, _, cf9, tbk_3 44 rfl rfl, tbk_3 45 rfl rfl, tbk_1 12 rfl rfl, by decide +kernel⟩
set_option maxRecDepth 20000 in
theorem cl_X11_93 : Cond.classLink RX11 93 "DeadPacks$Welding" ∈ TB := tbk_3 44 rfl rfl
set_option maxRecDepth 20000 in
theorem cl_X11_168 : Cond.classLink RX11 168 "java/util/NoSuchElementException" ∈ TB := tbk_6 138 rfl rfl
set_option maxRecDepth 20000 in
theorem cl_X0_22 : Cond.classLink RX0 22 "[I" ∈ TB := tbk_1 102 rfl rfl
set_option maxRecDepth 20000 in
theorem nw_X5_9 : NewW RX5 9 0 := ⟨_, _, cf0, tbk_1 88 rfl rfl, tbk_1 89 rfl rfl, tbk_1 4 rfl rfl, by decide +kernel⟩
set_option maxRecDepth 20000 in
theorem cl_X5_9 : Cond.classLink RX5 9 "DeadPacks$House" ∈ TB := tbk_1 88 rfl rfl
set_option maxRecDepth 20000 in
theorem nw_X5_18 : NewW RX5 18 3 := ⟨_, _, cf3, tbk_1 133 rfl rfl, tbk_1 134 rfl rfl, tbk_1 5 rfl rfl, by decide +kernel⟩
set_option maxRecDepth 20000 in
theorem cl_X5_18 : Cond.classLink RX5 18 "DeadPacks$Rule" ∈ TB := tbk_1 133 rfl rfl
set_option maxRecDepth 20000 in
theorem nw_X5_25 : NewW RX5 25 1 := ⟨_, _, cf1, tbk_1 152 rfl rfl, tbk_1 153 rfl rfl, tbk_1 6 rfl rfl, by decide +kernel⟩
set_option maxRecDepth 20000 in
theorem cl_X5_25 : Cond.classLink RX5 25 "DeadPacks$Packs" ∈ TB := tbk_1 152 rfl rfl
set_option maxRecDepth 20000 in
theorem nw_L_8 : NewW RL 8 11 := ⟨_, _, cf11, tbk_1 24 rfl rfl, tbk_1 25 rfl rfl, tbk_1 1 rfl rfl, by decide +kernel⟩
set_option maxRecDepth 20000 in
theorem cl_L_8 : Cond.classLink RL 8 "DeadPacks" ∈ TB := tbk_1 24 rfl rfl
set_option maxRecDepth 20000 in
theorem cl_L_13 : Cond.classLink RL 13 "java/util/NoSuchElementException" ∈ TB := tbk_6 133 rfl rfl
set_option maxRecDepth 20000 in
theorem nw_L_26 : NewW RL 26 12 := ⟨_, _, cf12, tbk_7 4 rfl rfl, tbk_6 238 rfl rfl, tbk_1 13 rfl rfl, by decide +kernel⟩
set_option maxRecDepth 20000 in
theorem cl_L_26 : Cond.classLink RL 26 "DeadPacksModel" ∈ TB := tbk_7 4 rfl rfl
set_option maxRecDepth 20000 in
theorem ac_1 : Cond.arrayClass (aty 1) ∈ TB := tbk_1 81 rfl rfl
set_option maxRecDepth 20000 in
theorem ac_0 : Cond.arrayClass (aty 0) ∈ TB := tbk_1 132 rfl rfl
set_option maxRecDepth 20000 in
theorem ao_Stock : Cond.arrayOver (.object "DeadPacks$Stock") ∈ lw_tbl := List.mem_of_getElem? (i := 398) rfl
set_option maxRecDepth 20000 in
theorem ac_3 : Cond.arrayClass (aty 3) ∈ TB := tbk_2 92 rfl rfl
set_option maxRecDepth 20000 in
theorem ac_2 : Cond.arrayClass (aty 2) ∈ TB := tbk_8 43 rfl rfl
set_option maxRecDepth 20000 in
theorem ob_X11_1 : ObjW RX11 1 := ⟨tbk_1 29 rfl rfl, tbk_1 30 rfl rfl, tbk_1 31 rfl rfl⟩
set_option maxRecDepth 20000 in
theorem ob_X0_3 : ObjW RX0 3 := ⟨tbk_1 93 rfl rfl, tbk_1 30 rfl rfl, tbk_1 31 rfl rfl⟩
set_option maxRecDepth 20000 in
theorem cn_X0_21 : CloneW RX0 21 := ⟨tbk_1 96 rfl rfl, tbk_1 97 rfl rfl, tbk_1 98 rfl rfl, tbk_1 99 rfl rfl, tbk_1 100 rfl rfl, List.mem_of_getElem? (i := 219) rfl⟩
set_option maxRecDepth 20000 in
theorem ob_X1_3 : ObjW RX1 3 := ⟨tbk_1 157 rfl rfl, tbk_1 30 rfl rfl, tbk_1 31 rfl rfl⟩
set_option maxRecDepth 20000 in
theorem ob_X2_5 : ObjW RX2 5 := ⟨tbk_2 98 rfl rfl, tbk_1 30 rfl rfl, tbk_1 31 rfl rfl⟩
set_option maxRecDepth 20000 in
theorem ob_X3_3 : ObjW RX3 3 := ⟨tbk_1 138 rfl rfl, tbk_1 30 rfl rfl, tbk_1 31 rfl rfl⟩
set_option maxRecDepth 20000 in
theorem ob_X4_1 : ObjW RX4 1 := ⟨tbk_2 208 rfl rfl, tbk_1 30 rfl rfl, tbk_1 31 rfl rfl⟩
set_option maxRecDepth 20000 in
theorem ob_X5_3 : ObjW RX5 3 := ⟨tbk_1 87 rfl rfl, tbk_1 30 rfl rfl, tbk_1 31 rfl rfl⟩
set_option maxRecDepth 20000 in
theorem ob_X6_1 : ObjW RX6 1 := ⟨tbk_2 164 rfl rfl, tbk_1 30 rfl rfl, tbk_1 31 rfl rfl⟩
set_option maxRecDepth 20000 in
theorem ob_X7_3 : ObjW RX7 3 := ⟨tbk_1 37 rfl rfl, tbk_1 30 rfl rfl, tbk_1 31 rfl rfl⟩
set_option maxRecDepth 20000 in
theorem ob_X8_3 : ObjW RX8 3 := ⟨tbk_2 50 rfl rfl, tbk_1 30 rfl rfl, tbk_1 31 rfl rfl⟩
set_option maxRecDepth 20000 in
theorem ob_X9_3 : ObjW RX9 3 := ⟨tbk_3 49 rfl rfl, tbk_1 30 rfl rfl, tbk_1 31 rfl rfl⟩
set_option maxRecDepth 20000 in
theorem ob_X10_3 : ObjW RX10 3 := ⟨tbk_3 3 rfl rfl, tbk_1 30 rfl rfl, tbk_1 31 rfl rfl⟩
set_option maxRecDepth 20000 in
theorem ob_X12_27 : ObjW RX12 27 := ⟨tbk_7 8 rfl rfl, tbk_1 30 rfl rfl, tbk_1 31 rfl rfl⟩
def EVM : List (Nat × Nat × Nat × Nat) := [(0, 0, 0, 0), (0, 0, 0, 0), (0, 0, 0, 0), (1, 1, 0, 2), (1, 0, 0, 1), (0, 0, 0, 0), (0, 0, 0, 0), (0, 0, 0, 0), (1, 4, 0, 5), (0, 0, 0, 0), (1, 4, 1, 6), (0, 0, 0, 0), (1, 4, 2, 7), (1, 3, 0, 4), (0, 0, 0, 0), (0, 0, 0, 0), (1, 8, 0, 9), (1, 3, 1, 8), (0, 0, 0, 0), (0, 0, 0, 0), (1, 10, 1, 11), (0, 0, 0, 0), (1, 10, 2, 12), (0, 0, 0, 0), (1, 10, 3, 13), (0, 0, 0, 0), (1, 10, 4, 14), (0, 0, 0, 0), (1, 10, 5, 15), (0, 0, 0, 0), (1, 10, 6, 16), (0, 0, 0, 0), (1, 10, 8, 17), (0, 0, 0, 0), (1, 10, 9, 18), (0, 0, 0, 0), (1, 10, 10, 19), (0, 0, 0, 0), (1, 10, 11, 20), (0, 0, 0, 0), (1, 10, 13, 21), (1, 3, 2, 10), (0, 0, 0, 0), (1, 3, 4, 22), (0, 0, 0, 0), (1, 3, 6, 23), (0, 0, 0, 0), (1, 3, 7, 24), (0, 0, 0, 0), (1, 3, 8, 25), (0, 0, 0, 0), (1, 3, 9, 26), (0, 0, 0, 0), (1, 3, 11, 27), (0, 0, 0, 0), (1, 3, 12, 28), (0, 0, 0, 0), (1, 3, 13, 29), (0, 0, 0, 0), (1, 3, 14, 30), (0, 0, 0, 0), (1, 3, 15, 31), (0, 0, 0, 0), (1, 3, 16, 32), (1, 0, 1, 3), (0, 0, 0, 0), (1, 0, 2, 33), (0, 0, 0, 0), (0, 0, 0, 0), (1, 34, 0, 35), (0, 0, 0, 0), (1, 34, 1, 36), (0, 0, 0, 0), (1, 34, 2, 37), (1, 0, 3, 34), (0, 0, 0, 0), (0, 0, 0, 0), (1, 38, 0, 39), (1, 0, 4, 38), (0, 0, 0, 0), (0, 0, 0, 0), (1, 40, 1, 41), (0, 0, 0, 0), (1, 40, 2, 42), (0, 0, 0, 0), (1, 40, 3, 43), (0, 0, 0, 0), (1, 40, 4, 44), (0, 0, 0, 0), (1, 40, 5, 45), (0, 0, 0, 0), (1, 40, 6, 46), (0, 0, 0, 0), (1, 40, 7, 47), (0, 0, 0, 0), (1, 40, 8, 48), (0, 0, 0, 0), (1, 40, 9, 49), (0, 0, 0, 0), (1, 40, 10, 50), (1, 0, 5, 40), (0, 0, 0, 0), (1, 0, 6, 51), (0, 0, 0, 0), (0, 0, 0, 0), (1, 52, 1, 53), (0, 0, 0, 0), (1, 52, 7, 54), (0, 0, 0, 0), (1, 52, 8, 55), (0, 0, 0, 0), (1, 52, 9, 56), (0, 0, 0, 0), (1, 52, 10, 57), (0, 0, 0, 0), (1, 52, 11, 58), (0, 0, 0, 0), (1, 52, 12, 59), (0, 0, 0, 0), (1, 52, 13, 60), (0, 0, 0, 0), (1, 52, 14, 61), (0, 0, 0, 0), (1, 52, 15, 62), (0, 0, 0, 0), (1, 52, 16, 63), (0, 0, 0, 0), (1, 52, 17, 64), (1, 0, 7, 52), (0, 0, 0, 0), (0, 0, 0, 0), (1, 65, 1, 66), (0, 0, 0, 0), (1, 65, 2, 67), (0, 0, 0, 0), (1, 65, 8, 68), (0, 0, 0, 0), (1, 65, 9, 69), (1, 0, 8, 65), (0, 0, 0, 0), (0, 0, 0, 0), (1, 70, 1, 71), (0, 0, 0, 0), (1, 70, 2, 72), (0, 0, 0, 0), (1, 70, 6, 73), (0, 0, 0, 0), (1, 70, 7, 74), (1, 0, 9, 70), (0, 0, 0, 0), (0, 0, 0, 0), (1, 75, 1, 76), (0, 0, 0, 0), (1, 75, 2, 77), (0, 0, 0, 0), (1, 75, 3, 78), (0, 0, 0, 0), (1, 75, 5, 79), (0, 0, 0, 0), (1, 75, 6, 80), (0, 0, 0, 0), (1, 75, 7, 81), (0, 0, 0, 0), (1, 75, 8, 82), (1, 0, 13, 75), (0, 0, 0, 0), (0, 0, 0, 0), (1, 83, 1, 84), (0, 0, 0, 0), (1, 83, 2, 85), (0, 0, 0, 0), (1, 83, 3, 86), (0, 0, 0, 0), (1, 83, 5, 87), (0, 0, 0, 0), (1, 83, 6, 88), (0, 0, 0, 0), (1, 83, 7, 89), (0, 0, 0, 0), (1, 83, 8, 90), (1, 0, 14, 83), (0, 0, 0, 0), (0, 0, 0, 0), (1, 91, 1, 92), (0, 0, 0, 0), (1, 91, 2, 93), (0, 0, 0, 0), (1, 91, 3, 94), (0, 0, 0, 0), (1, 91, 4, 95), (0, 0, 0, 0), (1, 91, 5, 96), (1, 0, 15, 91), (0, 0, 0, 0), (0, 0, 0, 0), (1, 97, 1, 98), (0, 0, 0, 0), (1, 97, 6, 99), (0, 0, 0, 0), (1, 97, 7, 100), (0, 0, 0, 0), (1, 97, 8, 101), (0, 0, 0, 0), (1, 97, 9, 102), (0, 0, 0, 0), (1, 97, 20, 103), (0, 0, 0, 0), (1, 97, 21, 104), (0, 0, 0, 0), (1, 97, 22, 105), (0, 0, 0, 0), (1, 97, 23, 106), (0, 0, 0, 0), (1, 97, 24, 107), (0, 0, 0, 0), (1, 97, 25, 108), (0, 0, 0, 0), (1, 97, 26, 109), (0, 0, 0, 0), (1, 97, 27, 110), (0, 0, 0, 0), (1, 97, 30, 111), (0, 0, 0, 0), (1, 97, 31, 112), (0, 0, 0, 0), (1, 97, 32, 113), (0, 0, 0, 0), (1, 97, 36, 114), (0, 0, 0, 0), (1, 97, 37, 115), (0, 0, 0, 0), (1, 97, 38, 116), (0, 0, 0, 0), (1, 97, 39, 117), (0, 0, 0, 0), (1, 97, 40, 118), (0, 0, 0, 0), (1, 97, 41, 119), (0, 0, 0, 0), (1, 97, 42, 120), (0, 0, 0, 0), (1, 97, 47, 121), (0, 0, 0, 0), (1, 97, 51, 122), (0, 0, 0, 0), (1, 97, 52, 123), (0, 0, 0, 0), (1, 97, 57, 124), (0, 0, 0, 0), (1, 97, 63, 125), (0, 0, 0, 0), (1, 97, 64, 126), (0, 0, 0, 0), (1, 97, 65, 127), (0, 0, 0, 0), (1, 97, 66, 128), (0, 0, 0, 0), (1, 97, 67, 129), (0, 0, 0, 0), (1, 97, 68, 130), (0, 0, 0, 0), (1, 97, 69, 131), (0, 0, 0, 0), (1, 97, 70, 132), (0, 0, 0, 0), (1, 97, 71, 133), (0, 0, 0, 0), (1, 97, 72, 134), (0, 0, 0, 0), (1, 97, 73, 135), (0, 0, 0, 0), (1, 97, 74, 136), (0, 0, 0, 0), (1, 97, 75, 137), (0, 0, 0, 0), (1, 97, 76, 138), (0, 0, 0, 0), (1, 97, 77, 139), (0, 0, 0, 0), (1, 97, 79, 140), (0, 0, 0, 0), (1, 97, 80, 141), (0, 0, 0, 0), (1, 97, 81, 142), (0, 0, 0, 0)]
def zt (t : Nat) : ZR := zev (fun _ _ => none, 0) EVM t
theorem zb_zt (t : Nat) : zb (zt t) := zb_zev (fun _ _ _ h => by simp at h) (by decide +kernel) t
theorem zt_a (t t2 : Nat) (ht : t2 = t + 1) (h : EVM[t]? = some (0, 0, 0, 0)) : zt t2 = (rz (zt t).1 (zt t).2, (zt t).2 + 1) := by
  subst ht
  unfold zt
  show (match EVM[t]? with | some e => zstep (zev _ EVM t) e | none => zev _ EVM t) = _
  rw [h]
  rfl
theorem zt_p (t t2 a j v : Nat) (ht : t2 = t + 1) (h : EVM[t]? = some (1, a, j, v)) : zt t2 = (ru (zt t).1 a j (some v), (zt t).2) := by
  subst ht
  unfold zt
  show (match EVM[t]? with | some e => zstep (zev _ EVM t) e | none => zev _ EVM t) = _
  rw [h]
  rfl
theorem zn_a {z z2 : ZR} {n n2 : Nat} (hz : z2 = (rz z.1 z.2, z.2 + 1)) (h : z.2 = n) (hn : n2 = n + 1) : z2.2 = n2 := by
  subst hz; subst h; exact hn.symm
theorem zn_p {z z2 : ZR} {n a j v : Nat} (hz : z2 = (ru z.1 a j (some v), z.2)) (h : z.2 = n) : z2.2 = n := by
  subst hz; exact h
theorem zn_zt_0 : (zt 0).2 = 0 := rfl
theorem zt_1 : zt 1 = (rz (zt 0).1 (zt 0).2, (zt 0).2 + 1) := zt_a 0 1 (by decide) (by decide +kernel)
theorem zn_zt_1 : (zt 1).2 = 1 := zn_a zt_1 zn_zt_0 (by decide)
theorem zt_2 : zt 2 = (rz (zt 1).1 (zt 1).2, (zt 1).2 + 1) := zt_a 1 2 (by decide) (by decide +kernel)
theorem zn_zt_2 : (zt 2).2 = 2 := zn_a zt_2 zn_zt_1 (by decide)
theorem zt_3 : zt 3 = (rz (zt 2).1 (zt 2).2, (zt 2).2 + 1) := zt_a 2 3 (by decide) (by decide +kernel)
theorem zn_zt_3 : (zt 3).2 = 3 := zn_a zt_3 zn_zt_2 (by decide)
theorem zt_4 : zt 4 = (ru (zt 3).1 1 0 (some 2), (zt 3).2) := zt_p 3 4 1 0 2 (by decide) (by decide +kernel)
theorem zn_zt_4 : (zt 4).2 = 3 := zn_p zt_4 zn_zt_3
theorem zt_5 : zt 5 = (ru (zt 4).1 0 0 (some 1), (zt 4).2) := zt_p 4 5 0 0 1 (by decide) (by decide +kernel)
theorem zn_zt_5 : (zt 5).2 = 3 := zn_p zt_5 zn_zt_4
theorem zt_6 : zt 6 = (rz (zt 5).1 (zt 5).2, (zt 5).2 + 1) := zt_a 5 6 (by decide) (by decide +kernel)
theorem zn_zt_6 : (zt 6).2 = 4 := zn_a zt_6 zn_zt_5 (by decide)
theorem zt_7 : zt 7 = (rz (zt 6).1 (zt 6).2, (zt 6).2 + 1) := zt_a 6 7 (by decide) (by decide +kernel)
theorem zn_zt_7 : (zt 7).2 = 5 := zn_a zt_7 zn_zt_6 (by decide)
theorem zt_8 : zt 8 = (rz (zt 7).1 (zt 7).2, (zt 7).2 + 1) := zt_a 7 8 (by decide) (by decide +kernel)
theorem zn_zt_8 : (zt 8).2 = 6 := zn_a zt_8 zn_zt_7 (by decide)
theorem zt_9 : zt 9 = (ru (zt 8).1 4 0 (some 5), (zt 8).2) := zt_p 8 9 4 0 5 (by decide) (by decide +kernel)
theorem zn_zt_9 : (zt 9).2 = 6 := zn_p zt_9 zn_zt_8
theorem zt_10 : zt 10 = (rz (zt 9).1 (zt 9).2, (zt 9).2 + 1) := zt_a 9 10 (by decide) (by decide +kernel)
theorem zn_zt_10 : (zt 10).2 = 7 := zn_a zt_10 zn_zt_9 (by decide)
theorem zt_11 : zt 11 = (ru (zt 10).1 4 1 (some 6), (zt 10).2) := zt_p 10 11 4 1 6 (by decide) (by decide +kernel)
theorem zn_zt_11 : (zt 11).2 = 7 := zn_p zt_11 zn_zt_10
theorem zt_12 : zt 12 = (rz (zt 11).1 (zt 11).2, (zt 11).2 + 1) := zt_a 11 12 (by decide) (by decide +kernel)
theorem zn_zt_12 : (zt 12).2 = 8 := zn_a zt_12 zn_zt_11 (by decide)
theorem zt_13 : zt 13 = (ru (zt 12).1 4 2 (some 7), (zt 12).2) := zt_p 12 13 4 2 7 (by decide) (by decide +kernel)
theorem zn_zt_13 : (zt 13).2 = 8 := zn_p zt_13 zn_zt_12
theorem zt_14 : zt 14 = (ru (zt 13).1 3 0 (some 4), (zt 13).2) := zt_p 13 14 3 0 4 (by decide) (by decide +kernel)
theorem zn_zt_14 : (zt 14).2 = 8 := zn_p zt_14 zn_zt_13
theorem zt_15 : zt 15 = (rz (zt 14).1 (zt 14).2, (zt 14).2 + 1) := zt_a 14 15 (by decide) (by decide +kernel)
theorem zn_zt_15 : (zt 15).2 = 9 := zn_a zt_15 zn_zt_14 (by decide)
theorem zt_16 : zt 16 = (rz (zt 15).1 (zt 15).2, (zt 15).2 + 1) := zt_a 15 16 (by decide) (by decide +kernel)
theorem zn_zt_16 : (zt 16).2 = 10 := zn_a zt_16 zn_zt_15 (by decide)
theorem zt_17 : zt 17 = (ru (zt 16).1 8 0 (some 9), (zt 16).2) := zt_p 16 17 8 0 9 (by decide) (by decide +kernel)
theorem zn_zt_17 : (zt 17).2 = 10 := zn_p zt_17 zn_zt_16
theorem zt_18 : zt 18 = (ru (zt 17).1 3 1 (some 8), (zt 17).2) := zt_p 17 18 3 1 8 (by decide) (by decide +kernel)
theorem zn_zt_18 : (zt 18).2 = 10 := zn_p zt_18 zn_zt_17
theorem zt_19 : zt 19 = (rz (zt 18).1 (zt 18).2, (zt 18).2 + 1) := zt_a 18 19 (by decide) (by decide +kernel)
theorem zn_zt_19 : (zt 19).2 = 11 := zn_a zt_19 zn_zt_18 (by decide)
theorem zt_20 : zt 20 = (rz (zt 19).1 (zt 19).2, (zt 19).2 + 1) := zt_a 19 20 (by decide) (by decide +kernel)
theorem zn_zt_20 : (zt 20).2 = 12 := zn_a zt_20 zn_zt_19 (by decide)
theorem zt_21 : zt 21 = (ru (zt 20).1 10 1 (some 11), (zt 20).2) := zt_p 20 21 10 1 11 (by decide) (by decide +kernel)
theorem zn_zt_21 : (zt 21).2 = 12 := zn_p zt_21 zn_zt_20
theorem zt_22 : zt 22 = (rz (zt 21).1 (zt 21).2, (zt 21).2 + 1) := zt_a 21 22 (by decide) (by decide +kernel)
theorem zn_zt_22 : (zt 22).2 = 13 := zn_a zt_22 zn_zt_21 (by decide)
theorem zt_23 : zt 23 = (ru (zt 22).1 10 2 (some 12), (zt 22).2) := zt_p 22 23 10 2 12 (by decide) (by decide +kernel)
theorem zn_zt_23 : (zt 23).2 = 13 := zn_p zt_23 zn_zt_22
theorem zt_24 : zt 24 = (rz (zt 23).1 (zt 23).2, (zt 23).2 + 1) := zt_a 23 24 (by decide) (by decide +kernel)
theorem zn_zt_24 : (zt 24).2 = 14 := zn_a zt_24 zn_zt_23 (by decide)
theorem zt_25 : zt 25 = (ru (zt 24).1 10 3 (some 13), (zt 24).2) := zt_p 24 25 10 3 13 (by decide) (by decide +kernel)
theorem zn_zt_25 : (zt 25).2 = 14 := zn_p zt_25 zn_zt_24
theorem zt_26 : zt 26 = (rz (zt 25).1 (zt 25).2, (zt 25).2 + 1) := zt_a 25 26 (by decide) (by decide +kernel)
theorem zn_zt_26 : (zt 26).2 = 15 := zn_a zt_26 zn_zt_25 (by decide)
theorem zt_27 : zt 27 = (ru (zt 26).1 10 4 (some 14), (zt 26).2) := zt_p 26 27 10 4 14 (by decide) (by decide +kernel)
theorem zn_zt_27 : (zt 27).2 = 15 := zn_p zt_27 zn_zt_26
theorem zt_28 : zt 28 = (rz (zt 27).1 (zt 27).2, (zt 27).2 + 1) := zt_a 27 28 (by decide) (by decide +kernel)
theorem zn_zt_28 : (zt 28).2 = 16 := zn_a zt_28 zn_zt_27 (by decide)
theorem zt_29 : zt 29 = (ru (zt 28).1 10 5 (some 15), (zt 28).2) := zt_p 28 29 10 5 15 (by decide) (by decide +kernel)
theorem zn_zt_29 : (zt 29).2 = 16 := zn_p zt_29 zn_zt_28
theorem zt_30 : zt 30 = (rz (zt 29).1 (zt 29).2, (zt 29).2 + 1) := zt_a 29 30 (by decide) (by decide +kernel)
theorem zn_zt_30 : (zt 30).2 = 17 := zn_a zt_30 zn_zt_29 (by decide)
theorem zt_31 : zt 31 = (ru (zt 30).1 10 6 (some 16), (zt 30).2) := zt_p 30 31 10 6 16 (by decide) (by decide +kernel)
theorem zn_zt_31 : (zt 31).2 = 17 := zn_p zt_31 zn_zt_30
theorem zt_32 : zt 32 = (rz (zt 31).1 (zt 31).2, (zt 31).2 + 1) := zt_a 31 32 (by decide) (by decide +kernel)
theorem zn_zt_32 : (zt 32).2 = 18 := zn_a zt_32 zn_zt_31 (by decide)
theorem zt_33 : zt 33 = (ru (zt 32).1 10 8 (some 17), (zt 32).2) := zt_p 32 33 10 8 17 (by decide) (by decide +kernel)
theorem zn_zt_33 : (zt 33).2 = 18 := zn_p zt_33 zn_zt_32
theorem zt_34 : zt 34 = (rz (zt 33).1 (zt 33).2, (zt 33).2 + 1) := zt_a 33 34 (by decide) (by decide +kernel)
theorem zn_zt_34 : (zt 34).2 = 19 := zn_a zt_34 zn_zt_33 (by decide)
theorem zt_35 : zt 35 = (ru (zt 34).1 10 9 (some 18), (zt 34).2) := zt_p 34 35 10 9 18 (by decide) (by decide +kernel)
theorem zn_zt_35 : (zt 35).2 = 19 := zn_p zt_35 zn_zt_34
theorem zt_36 : zt 36 = (rz (zt 35).1 (zt 35).2, (zt 35).2 + 1) := zt_a 35 36 (by decide) (by decide +kernel)
theorem zn_zt_36 : (zt 36).2 = 20 := zn_a zt_36 zn_zt_35 (by decide)
theorem zt_37 : zt 37 = (ru (zt 36).1 10 10 (some 19), (zt 36).2) := zt_p 36 37 10 10 19 (by decide) (by decide +kernel)
theorem zn_zt_37 : (zt 37).2 = 20 := zn_p zt_37 zn_zt_36
theorem zt_38 : zt 38 = (rz (zt 37).1 (zt 37).2, (zt 37).2 + 1) := zt_a 37 38 (by decide) (by decide +kernel)
theorem zn_zt_38 : (zt 38).2 = 21 := zn_a zt_38 zn_zt_37 (by decide)
theorem zt_39 : zt 39 = (ru (zt 38).1 10 11 (some 20), (zt 38).2) := zt_p 38 39 10 11 20 (by decide) (by decide +kernel)
theorem zn_zt_39 : (zt 39).2 = 21 := zn_p zt_39 zn_zt_38
theorem zt_40 : zt 40 = (rz (zt 39).1 (zt 39).2, (zt 39).2 + 1) := zt_a 39 40 (by decide) (by decide +kernel)
theorem zn_zt_40 : (zt 40).2 = 22 := zn_a zt_40 zn_zt_39 (by decide)
theorem zt_41 : zt 41 = (ru (zt 40).1 10 13 (some 21), (zt 40).2) := zt_p 40 41 10 13 21 (by decide) (by decide +kernel)
theorem zn_zt_41 : (zt 41).2 = 22 := zn_p zt_41 zn_zt_40
theorem zt_42 : zt 42 = (ru (zt 41).1 3 2 (some 10), (zt 41).2) := zt_p 41 42 3 2 10 (by decide) (by decide +kernel)
theorem zn_zt_42 : (zt 42).2 = 22 := zn_p zt_42 zn_zt_41
theorem zt_43 : zt 43 = (rz (zt 42).1 (zt 42).2, (zt 42).2 + 1) := zt_a 42 43 (by decide) (by decide +kernel)
theorem zn_zt_43 : (zt 43).2 = 23 := zn_a zt_43 zn_zt_42 (by decide)
theorem zt_44 : zt 44 = (ru (zt 43).1 3 4 (some 22), (zt 43).2) := zt_p 43 44 3 4 22 (by decide) (by decide +kernel)
theorem zn_zt_44 : (zt 44).2 = 23 := zn_p zt_44 zn_zt_43
theorem zt_45 : zt 45 = (rz (zt 44).1 (zt 44).2, (zt 44).2 + 1) := zt_a 44 45 (by decide) (by decide +kernel)
theorem zn_zt_45 : (zt 45).2 = 24 := zn_a zt_45 zn_zt_44 (by decide)
theorem zt_46 : zt 46 = (ru (zt 45).1 3 6 (some 23), (zt 45).2) := zt_p 45 46 3 6 23 (by decide) (by decide +kernel)
theorem zn_zt_46 : (zt 46).2 = 24 := zn_p zt_46 zn_zt_45
theorem zt_47 : zt 47 = (rz (zt 46).1 (zt 46).2, (zt 46).2 + 1) := zt_a 46 47 (by decide) (by decide +kernel)
theorem zn_zt_47 : (zt 47).2 = 25 := zn_a zt_47 zn_zt_46 (by decide)
theorem zt_48 : zt 48 = (ru (zt 47).1 3 7 (some 24), (zt 47).2) := zt_p 47 48 3 7 24 (by decide) (by decide +kernel)
theorem zn_zt_48 : (zt 48).2 = 25 := zn_p zt_48 zn_zt_47
theorem zt_49 : zt 49 = (rz (zt 48).1 (zt 48).2, (zt 48).2 + 1) := zt_a 48 49 (by decide) (by decide +kernel)
theorem zn_zt_49 : (zt 49).2 = 26 := zn_a zt_49 zn_zt_48 (by decide)
theorem zt_50 : zt 50 = (ru (zt 49).1 3 8 (some 25), (zt 49).2) := zt_p 49 50 3 8 25 (by decide) (by decide +kernel)
theorem zn_zt_50 : (zt 50).2 = 26 := zn_p zt_50 zn_zt_49
theorem zt_51 : zt 51 = (rz (zt 50).1 (zt 50).2, (zt 50).2 + 1) := zt_a 50 51 (by decide) (by decide +kernel)
theorem zn_zt_51 : (zt 51).2 = 27 := zn_a zt_51 zn_zt_50 (by decide)
theorem zt_52 : zt 52 = (ru (zt 51).1 3 9 (some 26), (zt 51).2) := zt_p 51 52 3 9 26 (by decide) (by decide +kernel)
theorem zn_zt_52 : (zt 52).2 = 27 := zn_p zt_52 zn_zt_51
theorem zt_53 : zt 53 = (rz (zt 52).1 (zt 52).2, (zt 52).2 + 1) := zt_a 52 53 (by decide) (by decide +kernel)
theorem zn_zt_53 : (zt 53).2 = 28 := zn_a zt_53 zn_zt_52 (by decide)
theorem zt_54 : zt 54 = (ru (zt 53).1 3 11 (some 27), (zt 53).2) := zt_p 53 54 3 11 27 (by decide) (by decide +kernel)
theorem zn_zt_54 : (zt 54).2 = 28 := zn_p zt_54 zn_zt_53
theorem zt_55 : zt 55 = (rz (zt 54).1 (zt 54).2, (zt 54).2 + 1) := zt_a 54 55 (by decide) (by decide +kernel)
theorem zn_zt_55 : (zt 55).2 = 29 := zn_a zt_55 zn_zt_54 (by decide)
theorem zt_56 : zt 56 = (ru (zt 55).1 3 12 (some 28), (zt 55).2) := zt_p 55 56 3 12 28 (by decide) (by decide +kernel)
theorem zn_zt_56 : (zt 56).2 = 29 := zn_p zt_56 zn_zt_55
theorem zt_57 : zt 57 = (rz (zt 56).1 (zt 56).2, (zt 56).2 + 1) := zt_a 56 57 (by decide) (by decide +kernel)
theorem zn_zt_57 : (zt 57).2 = 30 := zn_a zt_57 zn_zt_56 (by decide)
theorem zt_58 : zt 58 = (ru (zt 57).1 3 13 (some 29), (zt 57).2) := zt_p 57 58 3 13 29 (by decide) (by decide +kernel)
theorem zn_zt_58 : (zt 58).2 = 30 := zn_p zt_58 zn_zt_57
theorem zt_59 : zt 59 = (rz (zt 58).1 (zt 58).2, (zt 58).2 + 1) := zt_a 58 59 (by decide) (by decide +kernel)
theorem zn_zt_59 : (zt 59).2 = 31 := zn_a zt_59 zn_zt_58 (by decide)
theorem zt_60 : zt 60 = (ru (zt 59).1 3 14 (some 30), (zt 59).2) := zt_p 59 60 3 14 30 (by decide) (by decide +kernel)
theorem zn_zt_60 : (zt 60).2 = 31 := zn_p zt_60 zn_zt_59
theorem zt_61 : zt 61 = (rz (zt 60).1 (zt 60).2, (zt 60).2 + 1) := zt_a 60 61 (by decide) (by decide +kernel)
theorem zn_zt_61 : (zt 61).2 = 32 := zn_a zt_61 zn_zt_60 (by decide)
theorem zt_62 : zt 62 = (ru (zt 61).1 3 15 (some 31), (zt 61).2) := zt_p 61 62 3 15 31 (by decide) (by decide +kernel)
theorem zn_zt_62 : (zt 62).2 = 32 := zn_p zt_62 zn_zt_61
theorem zt_63 : zt 63 = (rz (zt 62).1 (zt 62).2, (zt 62).2 + 1) := zt_a 62 63 (by decide) (by decide +kernel)
theorem zn_zt_63 : (zt 63).2 = 33 := zn_a zt_63 zn_zt_62 (by decide)
theorem zt_64 : zt 64 = (ru (zt 63).1 3 16 (some 32), (zt 63).2) := zt_p 63 64 3 16 32 (by decide) (by decide +kernel)
theorem zn_zt_64 : (zt 64).2 = 33 := zn_p zt_64 zn_zt_63
theorem zt_65 : zt 65 = (ru (zt 64).1 0 1 (some 3), (zt 64).2) := zt_p 64 65 0 1 3 (by decide) (by decide +kernel)
theorem zn_zt_65 : (zt 65).2 = 33 := zn_p zt_65 zn_zt_64
theorem zt_66 : zt 66 = (rz (zt 65).1 (zt 65).2, (zt 65).2 + 1) := zt_a 65 66 (by decide) (by decide +kernel)
theorem zn_zt_66 : (zt 66).2 = 34 := zn_a zt_66 zn_zt_65 (by decide)
theorem zt_67 : zt 67 = (ru (zt 66).1 0 2 (some 33), (zt 66).2) := zt_p 66 67 0 2 33 (by decide) (by decide +kernel)
theorem zn_zt_67 : (zt 67).2 = 34 := zn_p zt_67 zn_zt_66
theorem zt_68 : zt 68 = (rz (zt 67).1 (zt 67).2, (zt 67).2 + 1) := zt_a 67 68 (by decide) (by decide +kernel)
theorem zn_zt_68 : (zt 68).2 = 35 := zn_a zt_68 zn_zt_67 (by decide)
theorem zt_69 : zt 69 = (rz (zt 68).1 (zt 68).2, (zt 68).2 + 1) := zt_a 68 69 (by decide) (by decide +kernel)
theorem zn_zt_69 : (zt 69).2 = 36 := zn_a zt_69 zn_zt_68 (by decide)
theorem zt_70 : zt 70 = (ru (zt 69).1 34 0 (some 35), (zt 69).2) := zt_p 69 70 34 0 35 (by decide) (by decide +kernel)
theorem zn_zt_70 : (zt 70).2 = 36 := zn_p zt_70 zn_zt_69
theorem zt_71 : zt 71 = (rz (zt 70).1 (zt 70).2, (zt 70).2 + 1) := zt_a 70 71 (by decide) (by decide +kernel)
theorem zn_zt_71 : (zt 71).2 = 37 := zn_a zt_71 zn_zt_70 (by decide)
theorem zt_72 : zt 72 = (ru (zt 71).1 34 1 (some 36), (zt 71).2) := zt_p 71 72 34 1 36 (by decide) (by decide +kernel)
theorem zn_zt_72 : (zt 72).2 = 37 := zn_p zt_72 zn_zt_71
theorem zt_73 : zt 73 = (rz (zt 72).1 (zt 72).2, (zt 72).2 + 1) := zt_a 72 73 (by decide) (by decide +kernel)
theorem zn_zt_73 : (zt 73).2 = 38 := zn_a zt_73 zn_zt_72 (by decide)
theorem zt_74 : zt 74 = (ru (zt 73).1 34 2 (some 37), (zt 73).2) := zt_p 73 74 34 2 37 (by decide) (by decide +kernel)
theorem zn_zt_74 : (zt 74).2 = 38 := zn_p zt_74 zn_zt_73
theorem zt_75 : zt 75 = (ru (zt 74).1 0 3 (some 34), (zt 74).2) := zt_p 74 75 0 3 34 (by decide) (by decide +kernel)
theorem zn_zt_75 : (zt 75).2 = 38 := zn_p zt_75 zn_zt_74
theorem zt_76 : zt 76 = (rz (zt 75).1 (zt 75).2, (zt 75).2 + 1) := zt_a 75 76 (by decide) (by decide +kernel)
theorem zn_zt_76 : (zt 76).2 = 39 := zn_a zt_76 zn_zt_75 (by decide)
theorem zt_77 : zt 77 = (rz (zt 76).1 (zt 76).2, (zt 76).2 + 1) := zt_a 76 77 (by decide) (by decide +kernel)
theorem zn_zt_77 : (zt 77).2 = 40 := zn_a zt_77 zn_zt_76 (by decide)
theorem zt_78 : zt 78 = (ru (zt 77).1 38 0 (some 39), (zt 77).2) := zt_p 77 78 38 0 39 (by decide) (by decide +kernel)
theorem zn_zt_78 : (zt 78).2 = 40 := zn_p zt_78 zn_zt_77
theorem zt_79 : zt 79 = (ru (zt 78).1 0 4 (some 38), (zt 78).2) := zt_p 78 79 0 4 38 (by decide) (by decide +kernel)
theorem zn_zt_79 : (zt 79).2 = 40 := zn_p zt_79 zn_zt_78
theorem zt_80 : zt 80 = (rz (zt 79).1 (zt 79).2, (zt 79).2 + 1) := zt_a 79 80 (by decide) (by decide +kernel)
theorem zn_zt_80 : (zt 80).2 = 41 := zn_a zt_80 zn_zt_79 (by decide)
theorem zt_81 : zt 81 = (rz (zt 80).1 (zt 80).2, (zt 80).2 + 1) := zt_a 80 81 (by decide) (by decide +kernel)
theorem zn_zt_81 : (zt 81).2 = 42 := zn_a zt_81 zn_zt_80 (by decide)
theorem zt_82 : zt 82 = (ru (zt 81).1 40 1 (some 41), (zt 81).2) := zt_p 81 82 40 1 41 (by decide) (by decide +kernel)
theorem zn_zt_82 : (zt 82).2 = 42 := zn_p zt_82 zn_zt_81
theorem zt_83 : zt 83 = (rz (zt 82).1 (zt 82).2, (zt 82).2 + 1) := zt_a 82 83 (by decide) (by decide +kernel)
theorem zn_zt_83 : (zt 83).2 = 43 := zn_a zt_83 zn_zt_82 (by decide)
theorem zt_84 : zt 84 = (ru (zt 83).1 40 2 (some 42), (zt 83).2) := zt_p 83 84 40 2 42 (by decide) (by decide +kernel)
theorem zn_zt_84 : (zt 84).2 = 43 := zn_p zt_84 zn_zt_83
theorem zt_85 : zt 85 = (rz (zt 84).1 (zt 84).2, (zt 84).2 + 1) := zt_a 84 85 (by decide) (by decide +kernel)
theorem zn_zt_85 : (zt 85).2 = 44 := zn_a zt_85 zn_zt_84 (by decide)
theorem zt_86 : zt 86 = (ru (zt 85).1 40 3 (some 43), (zt 85).2) := zt_p 85 86 40 3 43 (by decide) (by decide +kernel)
theorem zn_zt_86 : (zt 86).2 = 44 := zn_p zt_86 zn_zt_85
theorem zt_87 : zt 87 = (rz (zt 86).1 (zt 86).2, (zt 86).2 + 1) := zt_a 86 87 (by decide) (by decide +kernel)
theorem zn_zt_87 : (zt 87).2 = 45 := zn_a zt_87 zn_zt_86 (by decide)
theorem zt_88 : zt 88 = (ru (zt 87).1 40 4 (some 44), (zt 87).2) := zt_p 87 88 40 4 44 (by decide) (by decide +kernel)
theorem zn_zt_88 : (zt 88).2 = 45 := zn_p zt_88 zn_zt_87
theorem zt_89 : zt 89 = (rz (zt 88).1 (zt 88).2, (zt 88).2 + 1) := zt_a 88 89 (by decide) (by decide +kernel)
theorem zn_zt_89 : (zt 89).2 = 46 := zn_a zt_89 zn_zt_88 (by decide)
theorem zt_90 : zt 90 = (ru (zt 89).1 40 5 (some 45), (zt 89).2) := zt_p 89 90 40 5 45 (by decide) (by decide +kernel)
theorem zn_zt_90 : (zt 90).2 = 46 := zn_p zt_90 zn_zt_89
theorem zt_91 : zt 91 = (rz (zt 90).1 (zt 90).2, (zt 90).2 + 1) := zt_a 90 91 (by decide) (by decide +kernel)
theorem zn_zt_91 : (zt 91).2 = 47 := zn_a zt_91 zn_zt_90 (by decide)
theorem zt_92 : zt 92 = (ru (zt 91).1 40 6 (some 46), (zt 91).2) := zt_p 91 92 40 6 46 (by decide) (by decide +kernel)
theorem zn_zt_92 : (zt 92).2 = 47 := zn_p zt_92 zn_zt_91
theorem zt_93 : zt 93 = (rz (zt 92).1 (zt 92).2, (zt 92).2 + 1) := zt_a 92 93 (by decide) (by decide +kernel)
theorem zn_zt_93 : (zt 93).2 = 48 := zn_a zt_93 zn_zt_92 (by decide)
theorem zt_94 : zt 94 = (ru (zt 93).1 40 7 (some 47), (zt 93).2) := zt_p 93 94 40 7 47 (by decide) (by decide +kernel)
theorem zn_zt_94 : (zt 94).2 = 48 := zn_p zt_94 zn_zt_93
theorem zt_95 : zt 95 = (rz (zt 94).1 (zt 94).2, (zt 94).2 + 1) := zt_a 94 95 (by decide) (by decide +kernel)
theorem zn_zt_95 : (zt 95).2 = 49 := zn_a zt_95 zn_zt_94 (by decide)
theorem zt_96 : zt 96 = (ru (zt 95).1 40 8 (some 48), (zt 95).2) := zt_p 95 96 40 8 48 (by decide) (by decide +kernel)
theorem zn_zt_96 : (zt 96).2 = 49 := zn_p zt_96 zn_zt_95
theorem zt_97 : zt 97 = (rz (zt 96).1 (zt 96).2, (zt 96).2 + 1) := zt_a 96 97 (by decide) (by decide +kernel)
theorem zn_zt_97 : (zt 97).2 = 50 := zn_a zt_97 zn_zt_96 (by decide)
theorem zt_98 : zt 98 = (ru (zt 97).1 40 9 (some 49), (zt 97).2) := zt_p 97 98 40 9 49 (by decide) (by decide +kernel)
theorem zn_zt_98 : (zt 98).2 = 50 := zn_p zt_98 zn_zt_97
theorem zt_99 : zt 99 = (rz (zt 98).1 (zt 98).2, (zt 98).2 + 1) := zt_a 98 99 (by decide) (by decide +kernel)
theorem zn_zt_99 : (zt 99).2 = 51 := zn_a zt_99 zn_zt_98 (by decide)
theorem zt_100 : zt 100 = (ru (zt 99).1 40 10 (some 50), (zt 99).2) := zt_p 99 100 40 10 50 (by decide) (by decide +kernel)
theorem zn_zt_100 : (zt 100).2 = 51 := zn_p zt_100 zn_zt_99
theorem zt_101 : zt 101 = (ru (zt 100).1 0 5 (some 40), (zt 100).2) := zt_p 100 101 0 5 40 (by decide) (by decide +kernel)
theorem zn_zt_101 : (zt 101).2 = 51 := zn_p zt_101 zn_zt_100
theorem zt_102 : zt 102 = (rz (zt 101).1 (zt 101).2, (zt 101).2 + 1) := zt_a 101 102 (by decide) (by decide +kernel)
theorem zn_zt_102 : (zt 102).2 = 52 := zn_a zt_102 zn_zt_101 (by decide)
theorem zt_103 : zt 103 = (ru (zt 102).1 0 6 (some 51), (zt 102).2) := zt_p 102 103 0 6 51 (by decide) (by decide +kernel)
theorem zn_zt_103 : (zt 103).2 = 52 := zn_p zt_103 zn_zt_102
theorem zt_104 : zt 104 = (rz (zt 103).1 (zt 103).2, (zt 103).2 + 1) := zt_a 103 104 (by decide) (by decide +kernel)
theorem zn_zt_104 : (zt 104).2 = 53 := zn_a zt_104 zn_zt_103 (by decide)
theorem zt_105 : zt 105 = (rz (zt 104).1 (zt 104).2, (zt 104).2 + 1) := zt_a 104 105 (by decide) (by decide +kernel)
theorem zn_zt_105 : (zt 105).2 = 54 := zn_a zt_105 zn_zt_104 (by decide)
theorem zt_106 : zt 106 = (ru (zt 105).1 52 1 (some 53), (zt 105).2) := zt_p 105 106 52 1 53 (by decide) (by decide +kernel)
theorem zn_zt_106 : (zt 106).2 = 54 := zn_p zt_106 zn_zt_105
theorem zt_107 : zt 107 = (rz (zt 106).1 (zt 106).2, (zt 106).2 + 1) := zt_a 106 107 (by decide) (by decide +kernel)
theorem zn_zt_107 : (zt 107).2 = 55 := zn_a zt_107 zn_zt_106 (by decide)
theorem zt_108 : zt 108 = (ru (zt 107).1 52 7 (some 54), (zt 107).2) := zt_p 107 108 52 7 54 (by decide) (by decide +kernel)
theorem zn_zt_108 : (zt 108).2 = 55 := zn_p zt_108 zn_zt_107
theorem zt_109 : zt 109 = (rz (zt 108).1 (zt 108).2, (zt 108).2 + 1) := zt_a 108 109 (by decide) (by decide +kernel)
theorem zn_zt_109 : (zt 109).2 = 56 := zn_a zt_109 zn_zt_108 (by decide)
theorem zt_110 : zt 110 = (ru (zt 109).1 52 8 (some 55), (zt 109).2) := zt_p 109 110 52 8 55 (by decide) (by decide +kernel)
theorem zn_zt_110 : (zt 110).2 = 56 := zn_p zt_110 zn_zt_109
theorem zt_111 : zt 111 = (rz (zt 110).1 (zt 110).2, (zt 110).2 + 1) := zt_a 110 111 (by decide) (by decide +kernel)
theorem zn_zt_111 : (zt 111).2 = 57 := zn_a zt_111 zn_zt_110 (by decide)
theorem zt_112 : zt 112 = (ru (zt 111).1 52 9 (some 56), (zt 111).2) := zt_p 111 112 52 9 56 (by decide) (by decide +kernel)
theorem zn_zt_112 : (zt 112).2 = 57 := zn_p zt_112 zn_zt_111
theorem zt_113 : zt 113 = (rz (zt 112).1 (zt 112).2, (zt 112).2 + 1) := zt_a 112 113 (by decide) (by decide +kernel)
theorem zn_zt_113 : (zt 113).2 = 58 := zn_a zt_113 zn_zt_112 (by decide)
theorem zt_114 : zt 114 = (ru (zt 113).1 52 10 (some 57), (zt 113).2) := zt_p 113 114 52 10 57 (by decide) (by decide +kernel)
theorem zn_zt_114 : (zt 114).2 = 58 := zn_p zt_114 zn_zt_113
theorem zt_115 : zt 115 = (rz (zt 114).1 (zt 114).2, (zt 114).2 + 1) := zt_a 114 115 (by decide) (by decide +kernel)
theorem zn_zt_115 : (zt 115).2 = 59 := zn_a zt_115 zn_zt_114 (by decide)
theorem zt_116 : zt 116 = (ru (zt 115).1 52 11 (some 58), (zt 115).2) := zt_p 115 116 52 11 58 (by decide) (by decide +kernel)
theorem zn_zt_116 : (zt 116).2 = 59 := zn_p zt_116 zn_zt_115
theorem zt_117 : zt 117 = (rz (zt 116).1 (zt 116).2, (zt 116).2 + 1) := zt_a 116 117 (by decide) (by decide +kernel)
theorem zn_zt_117 : (zt 117).2 = 60 := zn_a zt_117 zn_zt_116 (by decide)
theorem zt_118 : zt 118 = (ru (zt 117).1 52 12 (some 59), (zt 117).2) := zt_p 117 118 52 12 59 (by decide) (by decide +kernel)
theorem zn_zt_118 : (zt 118).2 = 60 := zn_p zt_118 zn_zt_117
theorem zt_119 : zt 119 = (rz (zt 118).1 (zt 118).2, (zt 118).2 + 1) := zt_a 118 119 (by decide) (by decide +kernel)
theorem zn_zt_119 : (zt 119).2 = 61 := zn_a zt_119 zn_zt_118 (by decide)
theorem zt_120 : zt 120 = (ru (zt 119).1 52 13 (some 60), (zt 119).2) := zt_p 119 120 52 13 60 (by decide) (by decide +kernel)
theorem zn_zt_120 : (zt 120).2 = 61 := zn_p zt_120 zn_zt_119
theorem zt_121 : zt 121 = (rz (zt 120).1 (zt 120).2, (zt 120).2 + 1) := zt_a 120 121 (by decide) (by decide +kernel)
theorem zn_zt_121 : (zt 121).2 = 62 := zn_a zt_121 zn_zt_120 (by decide)
theorem zt_122 : zt 122 = (ru (zt 121).1 52 14 (some 61), (zt 121).2) := zt_p 121 122 52 14 61 (by decide) (by decide +kernel)
theorem zn_zt_122 : (zt 122).2 = 62 := zn_p zt_122 zn_zt_121
theorem zt_123 : zt 123 = (rz (zt 122).1 (zt 122).2, (zt 122).2 + 1) := zt_a 122 123 (by decide) (by decide +kernel)
theorem zn_zt_123 : (zt 123).2 = 63 := zn_a zt_123 zn_zt_122 (by decide)
theorem zt_124 : zt 124 = (ru (zt 123).1 52 15 (some 62), (zt 123).2) := zt_p 123 124 52 15 62 (by decide) (by decide +kernel)
theorem zn_zt_124 : (zt 124).2 = 63 := zn_p zt_124 zn_zt_123
theorem zt_125 : zt 125 = (rz (zt 124).1 (zt 124).2, (zt 124).2 + 1) := zt_a 124 125 (by decide) (by decide +kernel)
theorem zn_zt_125 : (zt 125).2 = 64 := zn_a zt_125 zn_zt_124 (by decide)
theorem zt_126 : zt 126 = (ru (zt 125).1 52 16 (some 63), (zt 125).2) := zt_p 125 126 52 16 63 (by decide) (by decide +kernel)
theorem zn_zt_126 : (zt 126).2 = 64 := zn_p zt_126 zn_zt_125
theorem zt_127 : zt 127 = (rz (zt 126).1 (zt 126).2, (zt 126).2 + 1) := zt_a 126 127 (by decide) (by decide +kernel)
theorem zn_zt_127 : (zt 127).2 = 65 := zn_a zt_127 zn_zt_126 (by decide)
theorem zt_128 : zt 128 = (ru (zt 127).1 52 17 (some 64), (zt 127).2) := zt_p 127 128 52 17 64 (by decide) (by decide +kernel)
theorem zn_zt_128 : (zt 128).2 = 65 := zn_p zt_128 zn_zt_127
theorem zt_129 : zt 129 = (ru (zt 128).1 0 7 (some 52), (zt 128).2) := zt_p 128 129 0 7 52 (by decide) (by decide +kernel)
theorem zn_zt_129 : (zt 129).2 = 65 := zn_p zt_129 zn_zt_128
theorem zt_130 : zt 130 = (rz (zt 129).1 (zt 129).2, (zt 129).2 + 1) := zt_a 129 130 (by decide) (by decide +kernel)
theorem zn_zt_130 : (zt 130).2 = 66 := zn_a zt_130 zn_zt_129 (by decide)
theorem zt_131 : zt 131 = (rz (zt 130).1 (zt 130).2, (zt 130).2 + 1) := zt_a 130 131 (by decide) (by decide +kernel)
theorem zn_zt_131 : (zt 131).2 = 67 := zn_a zt_131 zn_zt_130 (by decide)
theorem zt_132 : zt 132 = (ru (zt 131).1 65 1 (some 66), (zt 131).2) := zt_p 131 132 65 1 66 (by decide) (by decide +kernel)
theorem zn_zt_132 : (zt 132).2 = 67 := zn_p zt_132 zn_zt_131
theorem zt_133 : zt 133 = (rz (zt 132).1 (zt 132).2, (zt 132).2 + 1) := zt_a 132 133 (by decide) (by decide +kernel)
theorem zn_zt_133 : (zt 133).2 = 68 := zn_a zt_133 zn_zt_132 (by decide)
theorem zt_134 : zt 134 = (ru (zt 133).1 65 2 (some 67), (zt 133).2) := zt_p 133 134 65 2 67 (by decide) (by decide +kernel)
theorem zn_zt_134 : (zt 134).2 = 68 := zn_p zt_134 zn_zt_133
theorem zt_135 : zt 135 = (rz (zt 134).1 (zt 134).2, (zt 134).2 + 1) := zt_a 134 135 (by decide) (by decide +kernel)
theorem zn_zt_135 : (zt 135).2 = 69 := zn_a zt_135 zn_zt_134 (by decide)
theorem zt_136 : zt 136 = (ru (zt 135).1 65 8 (some 68), (zt 135).2) := zt_p 135 136 65 8 68 (by decide) (by decide +kernel)
theorem zn_zt_136 : (zt 136).2 = 69 := zn_p zt_136 zn_zt_135
theorem zt_137 : zt 137 = (rz (zt 136).1 (zt 136).2, (zt 136).2 + 1) := zt_a 136 137 (by decide) (by decide +kernel)
theorem zn_zt_137 : (zt 137).2 = 70 := zn_a zt_137 zn_zt_136 (by decide)
theorem zt_138 : zt 138 = (ru (zt 137).1 65 9 (some 69), (zt 137).2) := zt_p 137 138 65 9 69 (by decide) (by decide +kernel)
theorem zn_zt_138 : (zt 138).2 = 70 := zn_p zt_138 zn_zt_137
theorem zt_139 : zt 139 = (ru (zt 138).1 0 8 (some 65), (zt 138).2) := zt_p 138 139 0 8 65 (by decide) (by decide +kernel)
theorem zn_zt_139 : (zt 139).2 = 70 := zn_p zt_139 zn_zt_138
theorem zt_140 : zt 140 = (rz (zt 139).1 (zt 139).2, (zt 139).2 + 1) := zt_a 139 140 (by decide) (by decide +kernel)
theorem zn_zt_140 : (zt 140).2 = 71 := zn_a zt_140 zn_zt_139 (by decide)
theorem zt_141 : zt 141 = (rz (zt 140).1 (zt 140).2, (zt 140).2 + 1) := zt_a 140 141 (by decide) (by decide +kernel)
theorem zn_zt_141 : (zt 141).2 = 72 := zn_a zt_141 zn_zt_140 (by decide)
theorem zt_142 : zt 142 = (ru (zt 141).1 70 1 (some 71), (zt 141).2) := zt_p 141 142 70 1 71 (by decide) (by decide +kernel)
theorem zn_zt_142 : (zt 142).2 = 72 := zn_p zt_142 zn_zt_141
theorem zt_143 : zt 143 = (rz (zt 142).1 (zt 142).2, (zt 142).2 + 1) := zt_a 142 143 (by decide) (by decide +kernel)
theorem zn_zt_143 : (zt 143).2 = 73 := zn_a zt_143 zn_zt_142 (by decide)
theorem zt_144 : zt 144 = (ru (zt 143).1 70 2 (some 72), (zt 143).2) := zt_p 143 144 70 2 72 (by decide) (by decide +kernel)
theorem zn_zt_144 : (zt 144).2 = 73 := zn_p zt_144 zn_zt_143
theorem zt_145 : zt 145 = (rz (zt 144).1 (zt 144).2, (zt 144).2 + 1) := zt_a 144 145 (by decide) (by decide +kernel)
theorem zn_zt_145 : (zt 145).2 = 74 := zn_a zt_145 zn_zt_144 (by decide)
theorem zt_146 : zt 146 = (ru (zt 145).1 70 6 (some 73), (zt 145).2) := zt_p 145 146 70 6 73 (by decide) (by decide +kernel)
theorem zn_zt_146 : (zt 146).2 = 74 := zn_p zt_146 zn_zt_145
theorem zt_147 : zt 147 = (rz (zt 146).1 (zt 146).2, (zt 146).2 + 1) := zt_a 146 147 (by decide) (by decide +kernel)
theorem zn_zt_147 : (zt 147).2 = 75 := zn_a zt_147 zn_zt_146 (by decide)
theorem zt_148 : zt 148 = (ru (zt 147).1 70 7 (some 74), (zt 147).2) := zt_p 147 148 70 7 74 (by decide) (by decide +kernel)
theorem zn_zt_148 : (zt 148).2 = 75 := zn_p zt_148 zn_zt_147
theorem zt_149 : zt 149 = (ru (zt 148).1 0 9 (some 70), (zt 148).2) := zt_p 148 149 0 9 70 (by decide) (by decide +kernel)
theorem zn_zt_149 : (zt 149).2 = 75 := zn_p zt_149 zn_zt_148
theorem zt_150 : zt 150 = (rz (zt 149).1 (zt 149).2, (zt 149).2 + 1) := zt_a 149 150 (by decide) (by decide +kernel)
theorem zn_zt_150 : (zt 150).2 = 76 := zn_a zt_150 zn_zt_149 (by decide)
theorem zt_151 : zt 151 = (rz (zt 150).1 (zt 150).2, (zt 150).2 + 1) := zt_a 150 151 (by decide) (by decide +kernel)
theorem zn_zt_151 : (zt 151).2 = 77 := zn_a zt_151 zn_zt_150 (by decide)
theorem zt_152 : zt 152 = (ru (zt 151).1 75 1 (some 76), (zt 151).2) := zt_p 151 152 75 1 76 (by decide) (by decide +kernel)
theorem zn_zt_152 : (zt 152).2 = 77 := zn_p zt_152 zn_zt_151
theorem zt_153 : zt 153 = (rz (zt 152).1 (zt 152).2, (zt 152).2 + 1) := zt_a 152 153 (by decide) (by decide +kernel)
theorem zn_zt_153 : (zt 153).2 = 78 := zn_a zt_153 zn_zt_152 (by decide)
theorem zt_154 : zt 154 = (ru (zt 153).1 75 2 (some 77), (zt 153).2) := zt_p 153 154 75 2 77 (by decide) (by decide +kernel)
theorem zn_zt_154 : (zt 154).2 = 78 := zn_p zt_154 zn_zt_153
theorem zt_155 : zt 155 = (rz (zt 154).1 (zt 154).2, (zt 154).2 + 1) := zt_a 154 155 (by decide) (by decide +kernel)
theorem zn_zt_155 : (zt 155).2 = 79 := zn_a zt_155 zn_zt_154 (by decide)
theorem zt_156 : zt 156 = (ru (zt 155).1 75 3 (some 78), (zt 155).2) := zt_p 155 156 75 3 78 (by decide) (by decide +kernel)
theorem zn_zt_156 : (zt 156).2 = 79 := zn_p zt_156 zn_zt_155
theorem zt_157 : zt 157 = (rz (zt 156).1 (zt 156).2, (zt 156).2 + 1) := zt_a 156 157 (by decide) (by decide +kernel)
theorem zn_zt_157 : (zt 157).2 = 80 := zn_a zt_157 zn_zt_156 (by decide)
theorem zt_158 : zt 158 = (ru (zt 157).1 75 5 (some 79), (zt 157).2) := zt_p 157 158 75 5 79 (by decide) (by decide +kernel)
theorem zn_zt_158 : (zt 158).2 = 80 := zn_p zt_158 zn_zt_157
theorem zt_159 : zt 159 = (rz (zt 158).1 (zt 158).2, (zt 158).2 + 1) := zt_a 158 159 (by decide) (by decide +kernel)
theorem zn_zt_159 : (zt 159).2 = 81 := zn_a zt_159 zn_zt_158 (by decide)
theorem zt_160 : zt 160 = (ru (zt 159).1 75 6 (some 80), (zt 159).2) := zt_p 159 160 75 6 80 (by decide) (by decide +kernel)
theorem zn_zt_160 : (zt 160).2 = 81 := zn_p zt_160 zn_zt_159
theorem zt_161 : zt 161 = (rz (zt 160).1 (zt 160).2, (zt 160).2 + 1) := zt_a 160 161 (by decide) (by decide +kernel)
theorem zn_zt_161 : (zt 161).2 = 82 := zn_a zt_161 zn_zt_160 (by decide)
theorem zt_162 : zt 162 = (ru (zt 161).1 75 7 (some 81), (zt 161).2) := zt_p 161 162 75 7 81 (by decide) (by decide +kernel)
theorem zn_zt_162 : (zt 162).2 = 82 := zn_p zt_162 zn_zt_161
theorem zt_163 : zt 163 = (rz (zt 162).1 (zt 162).2, (zt 162).2 + 1) := zt_a 162 163 (by decide) (by decide +kernel)
theorem zn_zt_163 : (zt 163).2 = 83 := zn_a zt_163 zn_zt_162 (by decide)
theorem zt_164 : zt 164 = (ru (zt 163).1 75 8 (some 82), (zt 163).2) := zt_p 163 164 75 8 82 (by decide) (by decide +kernel)
theorem zn_zt_164 : (zt 164).2 = 83 := zn_p zt_164 zn_zt_163
theorem zt_165 : zt 165 = (ru (zt 164).1 0 13 (some 75), (zt 164).2) := zt_p 164 165 0 13 75 (by decide) (by decide +kernel)
theorem zn_zt_165 : (zt 165).2 = 83 := zn_p zt_165 zn_zt_164
theorem zt_166 : zt 166 = (rz (zt 165).1 (zt 165).2, (zt 165).2 + 1) := zt_a 165 166 (by decide) (by decide +kernel)
theorem zn_zt_166 : (zt 166).2 = 84 := zn_a zt_166 zn_zt_165 (by decide)
theorem zt_167 : zt 167 = (rz (zt 166).1 (zt 166).2, (zt 166).2 + 1) := zt_a 166 167 (by decide) (by decide +kernel)
theorem zn_zt_167 : (zt 167).2 = 85 := zn_a zt_167 zn_zt_166 (by decide)
theorem zt_168 : zt 168 = (ru (zt 167).1 83 1 (some 84), (zt 167).2) := zt_p 167 168 83 1 84 (by decide) (by decide +kernel)
theorem zn_zt_168 : (zt 168).2 = 85 := zn_p zt_168 zn_zt_167
theorem zt_169 : zt 169 = (rz (zt 168).1 (zt 168).2, (zt 168).2 + 1) := zt_a 168 169 (by decide) (by decide +kernel)
theorem zn_zt_169 : (zt 169).2 = 86 := zn_a zt_169 zn_zt_168 (by decide)
theorem zt_170 : zt 170 = (ru (zt 169).1 83 2 (some 85), (zt 169).2) := zt_p 169 170 83 2 85 (by decide) (by decide +kernel)
theorem zn_zt_170 : (zt 170).2 = 86 := zn_p zt_170 zn_zt_169
theorem zt_171 : zt 171 = (rz (zt 170).1 (zt 170).2, (zt 170).2 + 1) := zt_a 170 171 (by decide) (by decide +kernel)
theorem zn_zt_171 : (zt 171).2 = 87 := zn_a zt_171 zn_zt_170 (by decide)
theorem zt_172 : zt 172 = (ru (zt 171).1 83 3 (some 86), (zt 171).2) := zt_p 171 172 83 3 86 (by decide) (by decide +kernel)
theorem zn_zt_172 : (zt 172).2 = 87 := zn_p zt_172 zn_zt_171
theorem zt_173 : zt 173 = (rz (zt 172).1 (zt 172).2, (zt 172).2 + 1) := zt_a 172 173 (by decide) (by decide +kernel)
theorem zn_zt_173 : (zt 173).2 = 88 := zn_a zt_173 zn_zt_172 (by decide)
theorem zt_174 : zt 174 = (ru (zt 173).1 83 5 (some 87), (zt 173).2) := zt_p 173 174 83 5 87 (by decide) (by decide +kernel)
theorem zn_zt_174 : (zt 174).2 = 88 := zn_p zt_174 zn_zt_173
theorem zt_175 : zt 175 = (rz (zt 174).1 (zt 174).2, (zt 174).2 + 1) := zt_a 174 175 (by decide) (by decide +kernel)
theorem zn_zt_175 : (zt 175).2 = 89 := zn_a zt_175 zn_zt_174 (by decide)
theorem zt_176 : zt 176 = (ru (zt 175).1 83 6 (some 88), (zt 175).2) := zt_p 175 176 83 6 88 (by decide) (by decide +kernel)
theorem zn_zt_176 : (zt 176).2 = 89 := zn_p zt_176 zn_zt_175
theorem zt_177 : zt 177 = (rz (zt 176).1 (zt 176).2, (zt 176).2 + 1) := zt_a 176 177 (by decide) (by decide +kernel)
theorem zn_zt_177 : (zt 177).2 = 90 := zn_a zt_177 zn_zt_176 (by decide)
theorem zt_178 : zt 178 = (ru (zt 177).1 83 7 (some 89), (zt 177).2) := zt_p 177 178 83 7 89 (by decide) (by decide +kernel)
theorem zn_zt_178 : (zt 178).2 = 90 := zn_p zt_178 zn_zt_177
theorem zt_179 : zt 179 = (rz (zt 178).1 (zt 178).2, (zt 178).2 + 1) := zt_a 178 179 (by decide) (by decide +kernel)
theorem zn_zt_179 : (zt 179).2 = 91 := zn_a zt_179 zn_zt_178 (by decide)
theorem zt_180 : zt 180 = (ru (zt 179).1 83 8 (some 90), (zt 179).2) := zt_p 179 180 83 8 90 (by decide) (by decide +kernel)
theorem zn_zt_180 : (zt 180).2 = 91 := zn_p zt_180 zn_zt_179
theorem zt_181 : zt 181 = (ru (zt 180).1 0 14 (some 83), (zt 180).2) := zt_p 180 181 0 14 83 (by decide) (by decide +kernel)
theorem zn_zt_181 : (zt 181).2 = 91 := zn_p zt_181 zn_zt_180
theorem zt_182 : zt 182 = (rz (zt 181).1 (zt 181).2, (zt 181).2 + 1) := zt_a 181 182 (by decide) (by decide +kernel)
theorem zn_zt_182 : (zt 182).2 = 92 := zn_a zt_182 zn_zt_181 (by decide)
theorem zt_183 : zt 183 = (rz (zt 182).1 (zt 182).2, (zt 182).2 + 1) := zt_a 182 183 (by decide) (by decide +kernel)
theorem zn_zt_183 : (zt 183).2 = 93 := zn_a zt_183 zn_zt_182 (by decide)
theorem zt_184 : zt 184 = (ru (zt 183).1 91 1 (some 92), (zt 183).2) := zt_p 183 184 91 1 92 (by decide) (by decide +kernel)
theorem zn_zt_184 : (zt 184).2 = 93 := zn_p zt_184 zn_zt_183
theorem zt_185 : zt 185 = (rz (zt 184).1 (zt 184).2, (zt 184).2 + 1) := zt_a 184 185 (by decide) (by decide +kernel)
theorem zn_zt_185 : (zt 185).2 = 94 := zn_a zt_185 zn_zt_184 (by decide)
theorem zt_186 : zt 186 = (ru (zt 185).1 91 2 (some 93), (zt 185).2) := zt_p 185 186 91 2 93 (by decide) (by decide +kernel)
theorem zn_zt_186 : (zt 186).2 = 94 := zn_p zt_186 zn_zt_185
theorem zt_187 : zt 187 = (rz (zt 186).1 (zt 186).2, (zt 186).2 + 1) := zt_a 186 187 (by decide) (by decide +kernel)
theorem zn_zt_187 : (zt 187).2 = 95 := zn_a zt_187 zn_zt_186 (by decide)
theorem zt_188 : zt 188 = (ru (zt 187).1 91 3 (some 94), (zt 187).2) := zt_p 187 188 91 3 94 (by decide) (by decide +kernel)
theorem zn_zt_188 : (zt 188).2 = 95 := zn_p zt_188 zn_zt_187
theorem zt_189 : zt 189 = (rz (zt 188).1 (zt 188).2, (zt 188).2 + 1) := zt_a 188 189 (by decide) (by decide +kernel)
theorem zn_zt_189 : (zt 189).2 = 96 := zn_a zt_189 zn_zt_188 (by decide)
theorem zt_190 : zt 190 = (ru (zt 189).1 91 4 (some 95), (zt 189).2) := zt_p 189 190 91 4 95 (by decide) (by decide +kernel)
theorem zn_zt_190 : (zt 190).2 = 96 := zn_p zt_190 zn_zt_189
theorem zt_191 : zt 191 = (rz (zt 190).1 (zt 190).2, (zt 190).2 + 1) := zt_a 190 191 (by decide) (by decide +kernel)
theorem zn_zt_191 : (zt 191).2 = 97 := zn_a zt_191 zn_zt_190 (by decide)
theorem zt_192 : zt 192 = (ru (zt 191).1 91 5 (some 96), (zt 191).2) := zt_p 191 192 91 5 96 (by decide) (by decide +kernel)
theorem zn_zt_192 : (zt 192).2 = 97 := zn_p zt_192 zn_zt_191
theorem zt_193 : zt 193 = (ru (zt 192).1 0 15 (some 91), (zt 192).2) := zt_p 192 193 0 15 91 (by decide) (by decide +kernel)
theorem zn_zt_193 : (zt 193).2 = 97 := zn_p zt_193 zn_zt_192
theorem zt_194 : zt 194 = (rz (zt 193).1 (zt 193).2, (zt 193).2 + 1) := zt_a 193 194 (by decide) (by decide +kernel)
theorem zn_zt_194 : (zt 194).2 = 98 := zn_a zt_194 zn_zt_193 (by decide)
theorem zt_195 : zt 195 = (rz (zt 194).1 (zt 194).2, (zt 194).2 + 1) := zt_a 194 195 (by decide) (by decide +kernel)
theorem zn_zt_195 : (zt 195).2 = 99 := zn_a zt_195 zn_zt_194 (by decide)
theorem zt_196 : zt 196 = (ru (zt 195).1 97 1 (some 98), (zt 195).2) := zt_p 195 196 97 1 98 (by decide) (by decide +kernel)
theorem zn_zt_196 : (zt 196).2 = 99 := zn_p zt_196 zn_zt_195
theorem zt_197 : zt 197 = (rz (zt 196).1 (zt 196).2, (zt 196).2 + 1) := zt_a 196 197 (by decide) (by decide +kernel)
theorem zn_zt_197 : (zt 197).2 = 100 := zn_a zt_197 zn_zt_196 (by decide)
theorem zt_198 : zt 198 = (ru (zt 197).1 97 6 (some 99), (zt 197).2) := zt_p 197 198 97 6 99 (by decide) (by decide +kernel)
theorem zn_zt_198 : (zt 198).2 = 100 := zn_p zt_198 zn_zt_197
theorem zt_199 : zt 199 = (rz (zt 198).1 (zt 198).2, (zt 198).2 + 1) := zt_a 198 199 (by decide) (by decide +kernel)
theorem zn_zt_199 : (zt 199).2 = 101 := zn_a zt_199 zn_zt_198 (by decide)
theorem zt_200 : zt 200 = (ru (zt 199).1 97 7 (some 100), (zt 199).2) := zt_p 199 200 97 7 100 (by decide) (by decide +kernel)
theorem zn_zt_200 : (zt 200).2 = 101 := zn_p zt_200 zn_zt_199
theorem zt_201 : zt 201 = (rz (zt 200).1 (zt 200).2, (zt 200).2 + 1) := zt_a 200 201 (by decide) (by decide +kernel)
theorem zn_zt_201 : (zt 201).2 = 102 := zn_a zt_201 zn_zt_200 (by decide)
theorem zt_202 : zt 202 = (ru (zt 201).1 97 8 (some 101), (zt 201).2) := zt_p 201 202 97 8 101 (by decide) (by decide +kernel)
theorem zn_zt_202 : (zt 202).2 = 102 := zn_p zt_202 zn_zt_201
theorem zt_203 : zt 203 = (rz (zt 202).1 (zt 202).2, (zt 202).2 + 1) := zt_a 202 203 (by decide) (by decide +kernel)
theorem zn_zt_203 : (zt 203).2 = 103 := zn_a zt_203 zn_zt_202 (by decide)
theorem zt_204 : zt 204 = (ru (zt 203).1 97 9 (some 102), (zt 203).2) := zt_p 203 204 97 9 102 (by decide) (by decide +kernel)
theorem zn_zt_204 : (zt 204).2 = 103 := zn_p zt_204 zn_zt_203
theorem zt_205 : zt 205 = (rz (zt 204).1 (zt 204).2, (zt 204).2 + 1) := zt_a 204 205 (by decide) (by decide +kernel)
theorem zn_zt_205 : (zt 205).2 = 104 := zn_a zt_205 zn_zt_204 (by decide)
theorem zt_206 : zt 206 = (ru (zt 205).1 97 20 (some 103), (zt 205).2) := zt_p 205 206 97 20 103 (by decide) (by decide +kernel)
theorem zn_zt_206 : (zt 206).2 = 104 := zn_p zt_206 zn_zt_205
theorem zt_207 : zt 207 = (rz (zt 206).1 (zt 206).2, (zt 206).2 + 1) := zt_a 206 207 (by decide) (by decide +kernel)
theorem zn_zt_207 : (zt 207).2 = 105 := zn_a zt_207 zn_zt_206 (by decide)
theorem zt_208 : zt 208 = (ru (zt 207).1 97 21 (some 104), (zt 207).2) := zt_p 207 208 97 21 104 (by decide) (by decide +kernel)
theorem zn_zt_208 : (zt 208).2 = 105 := zn_p zt_208 zn_zt_207
theorem zt_209 : zt 209 = (rz (zt 208).1 (zt 208).2, (zt 208).2 + 1) := zt_a 208 209 (by decide) (by decide +kernel)
theorem zn_zt_209 : (zt 209).2 = 106 := zn_a zt_209 zn_zt_208 (by decide)
theorem zt_210 : zt 210 = (ru (zt 209).1 97 22 (some 105), (zt 209).2) := zt_p 209 210 97 22 105 (by decide) (by decide +kernel)
theorem zn_zt_210 : (zt 210).2 = 106 := zn_p zt_210 zn_zt_209
theorem zt_211 : zt 211 = (rz (zt 210).1 (zt 210).2, (zt 210).2 + 1) := zt_a 210 211 (by decide) (by decide +kernel)
theorem zn_zt_211 : (zt 211).2 = 107 := zn_a zt_211 zn_zt_210 (by decide)
theorem zt_212 : zt 212 = (ru (zt 211).1 97 23 (some 106), (zt 211).2) := zt_p 211 212 97 23 106 (by decide) (by decide +kernel)
theorem zn_zt_212 : (zt 212).2 = 107 := zn_p zt_212 zn_zt_211
theorem zt_213 : zt 213 = (rz (zt 212).1 (zt 212).2, (zt 212).2 + 1) := zt_a 212 213 (by decide) (by decide +kernel)
theorem zn_zt_213 : (zt 213).2 = 108 := zn_a zt_213 zn_zt_212 (by decide)
theorem zt_214 : zt 214 = (ru (zt 213).1 97 24 (some 107), (zt 213).2) := zt_p 213 214 97 24 107 (by decide) (by decide +kernel)
theorem zn_zt_214 : (zt 214).2 = 108 := zn_p zt_214 zn_zt_213
theorem zt_215 : zt 215 = (rz (zt 214).1 (zt 214).2, (zt 214).2 + 1) := zt_a 214 215 (by decide) (by decide +kernel)
theorem zn_zt_215 : (zt 215).2 = 109 := zn_a zt_215 zn_zt_214 (by decide)
theorem zt_216 : zt 216 = (ru (zt 215).1 97 25 (some 108), (zt 215).2) := zt_p 215 216 97 25 108 (by decide) (by decide +kernel)
theorem zn_zt_216 : (zt 216).2 = 109 := zn_p zt_216 zn_zt_215
theorem zt_217 : zt 217 = (rz (zt 216).1 (zt 216).2, (zt 216).2 + 1) := zt_a 216 217 (by decide) (by decide +kernel)
theorem zn_zt_217 : (zt 217).2 = 110 := zn_a zt_217 zn_zt_216 (by decide)
theorem zt_218 : zt 218 = (ru (zt 217).1 97 26 (some 109), (zt 217).2) := zt_p 217 218 97 26 109 (by decide) (by decide +kernel)
theorem zn_zt_218 : (zt 218).2 = 110 := zn_p zt_218 zn_zt_217
theorem zt_219 : zt 219 = (rz (zt 218).1 (zt 218).2, (zt 218).2 + 1) := zt_a 218 219 (by decide) (by decide +kernel)
theorem zn_zt_219 : (zt 219).2 = 111 := zn_a zt_219 zn_zt_218 (by decide)
theorem zt_220 : zt 220 = (ru (zt 219).1 97 27 (some 110), (zt 219).2) := zt_p 219 220 97 27 110 (by decide) (by decide +kernel)
theorem zn_zt_220 : (zt 220).2 = 111 := zn_p zt_220 zn_zt_219
theorem zt_221 : zt 221 = (rz (zt 220).1 (zt 220).2, (zt 220).2 + 1) := zt_a 220 221 (by decide) (by decide +kernel)
theorem zn_zt_221 : (zt 221).2 = 112 := zn_a zt_221 zn_zt_220 (by decide)
theorem zt_222 : zt 222 = (ru (zt 221).1 97 30 (some 111), (zt 221).2) := zt_p 221 222 97 30 111 (by decide) (by decide +kernel)
theorem zn_zt_222 : (zt 222).2 = 112 := zn_p zt_222 zn_zt_221
theorem zt_223 : zt 223 = (rz (zt 222).1 (zt 222).2, (zt 222).2 + 1) := zt_a 222 223 (by decide) (by decide +kernel)
theorem zn_zt_223 : (zt 223).2 = 113 := zn_a zt_223 zn_zt_222 (by decide)
theorem zt_224 : zt 224 = (ru (zt 223).1 97 31 (some 112), (zt 223).2) := zt_p 223 224 97 31 112 (by decide) (by decide +kernel)
theorem zn_zt_224 : (zt 224).2 = 113 := zn_p zt_224 zn_zt_223
theorem zt_225 : zt 225 = (rz (zt 224).1 (zt 224).2, (zt 224).2 + 1) := zt_a 224 225 (by decide) (by decide +kernel)
theorem zn_zt_225 : (zt 225).2 = 114 := zn_a zt_225 zn_zt_224 (by decide)
theorem zt_226 : zt 226 = (ru (zt 225).1 97 32 (some 113), (zt 225).2) := zt_p 225 226 97 32 113 (by decide) (by decide +kernel)
theorem zn_zt_226 : (zt 226).2 = 114 := zn_p zt_226 zn_zt_225
theorem zt_227 : zt 227 = (rz (zt 226).1 (zt 226).2, (zt 226).2 + 1) := zt_a 226 227 (by decide) (by decide +kernel)
theorem zn_zt_227 : (zt 227).2 = 115 := zn_a zt_227 zn_zt_226 (by decide)
theorem zt_228 : zt 228 = (ru (zt 227).1 97 36 (some 114), (zt 227).2) := zt_p 227 228 97 36 114 (by decide) (by decide +kernel)
theorem zn_zt_228 : (zt 228).2 = 115 := zn_p zt_228 zn_zt_227
theorem zt_229 : zt 229 = (rz (zt 228).1 (zt 228).2, (zt 228).2 + 1) := zt_a 228 229 (by decide) (by decide +kernel)
theorem zn_zt_229 : (zt 229).2 = 116 := zn_a zt_229 zn_zt_228 (by decide)
theorem zt_230 : zt 230 = (ru (zt 229).1 97 37 (some 115), (zt 229).2) := zt_p 229 230 97 37 115 (by decide) (by decide +kernel)
theorem zn_zt_230 : (zt 230).2 = 116 := zn_p zt_230 zn_zt_229
theorem zt_231 : zt 231 = (rz (zt 230).1 (zt 230).2, (zt 230).2 + 1) := zt_a 230 231 (by decide) (by decide +kernel)
theorem zn_zt_231 : (zt 231).2 = 117 := zn_a zt_231 zn_zt_230 (by decide)
theorem zt_232 : zt 232 = (ru (zt 231).1 97 38 (some 116), (zt 231).2) := zt_p 231 232 97 38 116 (by decide) (by decide +kernel)
theorem zn_zt_232 : (zt 232).2 = 117 := zn_p zt_232 zn_zt_231
theorem zt_233 : zt 233 = (rz (zt 232).1 (zt 232).2, (zt 232).2 + 1) := zt_a 232 233 (by decide) (by decide +kernel)
theorem zn_zt_233 : (zt 233).2 = 118 := zn_a zt_233 zn_zt_232 (by decide)
theorem zt_234 : zt 234 = (ru (zt 233).1 97 39 (some 117), (zt 233).2) := zt_p 233 234 97 39 117 (by decide) (by decide +kernel)
theorem zn_zt_234 : (zt 234).2 = 118 := zn_p zt_234 zn_zt_233
theorem zt_235 : zt 235 = (rz (zt 234).1 (zt 234).2, (zt 234).2 + 1) := zt_a 234 235 (by decide) (by decide +kernel)
theorem zn_zt_235 : (zt 235).2 = 119 := zn_a zt_235 zn_zt_234 (by decide)
theorem zt_236 : zt 236 = (ru (zt 235).1 97 40 (some 118), (zt 235).2) := zt_p 235 236 97 40 118 (by decide) (by decide +kernel)
theorem zn_zt_236 : (zt 236).2 = 119 := zn_p zt_236 zn_zt_235
theorem zt_237 : zt 237 = (rz (zt 236).1 (zt 236).2, (zt 236).2 + 1) := zt_a 236 237 (by decide) (by decide +kernel)
theorem zn_zt_237 : (zt 237).2 = 120 := zn_a zt_237 zn_zt_236 (by decide)
theorem zt_238 : zt 238 = (ru (zt 237).1 97 41 (some 119), (zt 237).2) := zt_p 237 238 97 41 119 (by decide) (by decide +kernel)
theorem zn_zt_238 : (zt 238).2 = 120 := zn_p zt_238 zn_zt_237
theorem zt_239 : zt 239 = (rz (zt 238).1 (zt 238).2, (zt 238).2 + 1) := zt_a 238 239 (by decide) (by decide +kernel)
theorem zn_zt_239 : (zt 239).2 = 121 := zn_a zt_239 zn_zt_238 (by decide)
theorem zt_240 : zt 240 = (ru (zt 239).1 97 42 (some 120), (zt 239).2) := zt_p 239 240 97 42 120 (by decide) (by decide +kernel)
theorem zn_zt_240 : (zt 240).2 = 121 := zn_p zt_240 zn_zt_239
theorem zt_241 : zt 241 = (rz (zt 240).1 (zt 240).2, (zt 240).2 + 1) := zt_a 240 241 (by decide) (by decide +kernel)
theorem zn_zt_241 : (zt 241).2 = 122 := zn_a zt_241 zn_zt_240 (by decide)
theorem zt_242 : zt 242 = (ru (zt 241).1 97 47 (some 121), (zt 241).2) := zt_p 241 242 97 47 121 (by decide) (by decide +kernel)
theorem zn_zt_242 : (zt 242).2 = 122 := zn_p zt_242 zn_zt_241
theorem zt_243 : zt 243 = (rz (zt 242).1 (zt 242).2, (zt 242).2 + 1) := zt_a 242 243 (by decide) (by decide +kernel)
theorem zn_zt_243 : (zt 243).2 = 123 := zn_a zt_243 zn_zt_242 (by decide)
theorem zt_244 : zt 244 = (ru (zt 243).1 97 51 (some 122), (zt 243).2) := zt_p 243 244 97 51 122 (by decide) (by decide +kernel)
theorem zn_zt_244 : (zt 244).2 = 123 := zn_p zt_244 zn_zt_243
theorem zt_245 : zt 245 = (rz (zt 244).1 (zt 244).2, (zt 244).2 + 1) := zt_a 244 245 (by decide) (by decide +kernel)
theorem zn_zt_245 : (zt 245).2 = 124 := zn_a zt_245 zn_zt_244 (by decide)
theorem zt_246 : zt 246 = (ru (zt 245).1 97 52 (some 123), (zt 245).2) := zt_p 245 246 97 52 123 (by decide) (by decide +kernel)
theorem zn_zt_246 : (zt 246).2 = 124 := zn_p zt_246 zn_zt_245
theorem zt_247 : zt 247 = (rz (zt 246).1 (zt 246).2, (zt 246).2 + 1) := zt_a 246 247 (by decide) (by decide +kernel)
theorem zn_zt_247 : (zt 247).2 = 125 := zn_a zt_247 zn_zt_246 (by decide)
theorem zt_248 : zt 248 = (ru (zt 247).1 97 57 (some 124), (zt 247).2) := zt_p 247 248 97 57 124 (by decide) (by decide +kernel)
theorem zn_zt_248 : (zt 248).2 = 125 := zn_p zt_248 zn_zt_247
theorem zt_249 : zt 249 = (rz (zt 248).1 (zt 248).2, (zt 248).2 + 1) := zt_a 248 249 (by decide) (by decide +kernel)
theorem zn_zt_249 : (zt 249).2 = 126 := zn_a zt_249 zn_zt_248 (by decide)
theorem zt_250 : zt 250 = (ru (zt 249).1 97 63 (some 125), (zt 249).2) := zt_p 249 250 97 63 125 (by decide) (by decide +kernel)
theorem zn_zt_250 : (zt 250).2 = 126 := zn_p zt_250 zn_zt_249
theorem zt_251 : zt 251 = (rz (zt 250).1 (zt 250).2, (zt 250).2 + 1) := zt_a 250 251 (by decide) (by decide +kernel)
theorem zn_zt_251 : (zt 251).2 = 127 := zn_a zt_251 zn_zt_250 (by decide)
theorem zt_252 : zt 252 = (ru (zt 251).1 97 64 (some 126), (zt 251).2) := zt_p 251 252 97 64 126 (by decide) (by decide +kernel)
theorem zn_zt_252 : (zt 252).2 = 127 := zn_p zt_252 zn_zt_251
theorem zt_253 : zt 253 = (rz (zt 252).1 (zt 252).2, (zt 252).2 + 1) := zt_a 252 253 (by decide) (by decide +kernel)
theorem zn_zt_253 : (zt 253).2 = 128 := zn_a zt_253 zn_zt_252 (by decide)
theorem zt_254 : zt 254 = (ru (zt 253).1 97 65 (some 127), (zt 253).2) := zt_p 253 254 97 65 127 (by decide) (by decide +kernel)
theorem zn_zt_254 : (zt 254).2 = 128 := zn_p zt_254 zn_zt_253
theorem zt_255 : zt 255 = (rz (zt 254).1 (zt 254).2, (zt 254).2 + 1) := zt_a 254 255 (by decide) (by decide +kernel)
theorem zn_zt_255 : (zt 255).2 = 129 := zn_a zt_255 zn_zt_254 (by decide)
theorem zt_256 : zt 256 = (ru (zt 255).1 97 66 (some 128), (zt 255).2) := zt_p 255 256 97 66 128 (by decide) (by decide +kernel)
theorem zn_zt_256 : (zt 256).2 = 129 := zn_p zt_256 zn_zt_255
theorem zt_257 : zt 257 = (rz (zt 256).1 (zt 256).2, (zt 256).2 + 1) := zt_a 256 257 (by decide) (by decide +kernel)
theorem zn_zt_257 : (zt 257).2 = 130 := zn_a zt_257 zn_zt_256 (by decide)
theorem zt_258 : zt 258 = (ru (zt 257).1 97 67 (some 129), (zt 257).2) := zt_p 257 258 97 67 129 (by decide) (by decide +kernel)
theorem zn_zt_258 : (zt 258).2 = 130 := zn_p zt_258 zn_zt_257
theorem zt_259 : zt 259 = (rz (zt 258).1 (zt 258).2, (zt 258).2 + 1) := zt_a 258 259 (by decide) (by decide +kernel)
theorem zn_zt_259 : (zt 259).2 = 131 := zn_a zt_259 zn_zt_258 (by decide)
theorem zt_260 : zt 260 = (ru (zt 259).1 97 68 (some 130), (zt 259).2) := zt_p 259 260 97 68 130 (by decide) (by decide +kernel)
theorem zn_zt_260 : (zt 260).2 = 131 := zn_p zt_260 zn_zt_259
theorem zt_261 : zt 261 = (rz (zt 260).1 (zt 260).2, (zt 260).2 + 1) := zt_a 260 261 (by decide) (by decide +kernel)
theorem zn_zt_261 : (zt 261).2 = 132 := zn_a zt_261 zn_zt_260 (by decide)
theorem zt_262 : zt 262 = (ru (zt 261).1 97 69 (some 131), (zt 261).2) := zt_p 261 262 97 69 131 (by decide) (by decide +kernel)
theorem zn_zt_262 : (zt 262).2 = 132 := zn_p zt_262 zn_zt_261
theorem zt_263 : zt 263 = (rz (zt 262).1 (zt 262).2, (zt 262).2 + 1) := zt_a 262 263 (by decide) (by decide +kernel)
theorem zn_zt_263 : (zt 263).2 = 133 := zn_a zt_263 zn_zt_262 (by decide)
theorem zt_264 : zt 264 = (ru (zt 263).1 97 70 (some 132), (zt 263).2) := zt_p 263 264 97 70 132 (by decide) (by decide +kernel)
theorem zn_zt_264 : (zt 264).2 = 133 := zn_p zt_264 zn_zt_263
theorem zt_265 : zt 265 = (rz (zt 264).1 (zt 264).2, (zt 264).2 + 1) := zt_a 264 265 (by decide) (by decide +kernel)
theorem zn_zt_265 : (zt 265).2 = 134 := zn_a zt_265 zn_zt_264 (by decide)
theorem zt_266 : zt 266 = (ru (zt 265).1 97 71 (some 133), (zt 265).2) := zt_p 265 266 97 71 133 (by decide) (by decide +kernel)
theorem zn_zt_266 : (zt 266).2 = 134 := zn_p zt_266 zn_zt_265
theorem zt_267 : zt 267 = (rz (zt 266).1 (zt 266).2, (zt 266).2 + 1) := zt_a 266 267 (by decide) (by decide +kernel)
theorem zn_zt_267 : (zt 267).2 = 135 := zn_a zt_267 zn_zt_266 (by decide)
theorem zt_268 : zt 268 = (ru (zt 267).1 97 72 (some 134), (zt 267).2) := zt_p 267 268 97 72 134 (by decide) (by decide +kernel)
theorem zn_zt_268 : (zt 268).2 = 135 := zn_p zt_268 zn_zt_267
theorem zt_269 : zt 269 = (rz (zt 268).1 (zt 268).2, (zt 268).2 + 1) := zt_a 268 269 (by decide) (by decide +kernel)
theorem zn_zt_269 : (zt 269).2 = 136 := zn_a zt_269 zn_zt_268 (by decide)
theorem zt_270 : zt 270 = (ru (zt 269).1 97 73 (some 135), (zt 269).2) := zt_p 269 270 97 73 135 (by decide) (by decide +kernel)
theorem zn_zt_270 : (zt 270).2 = 136 := zn_p zt_270 zn_zt_269
theorem zt_271 : zt 271 = (rz (zt 270).1 (zt 270).2, (zt 270).2 + 1) := zt_a 270 271 (by decide) (by decide +kernel)
theorem zn_zt_271 : (zt 271).2 = 137 := zn_a zt_271 zn_zt_270 (by decide)
theorem zt_272 : zt 272 = (ru (zt 271).1 97 74 (some 136), (zt 271).2) := zt_p 271 272 97 74 136 (by decide) (by decide +kernel)
theorem zn_zt_272 : (zt 272).2 = 137 := zn_p zt_272 zn_zt_271
theorem zt_273 : zt 273 = (rz (zt 272).1 (zt 272).2, (zt 272).2 + 1) := zt_a 272 273 (by decide) (by decide +kernel)
theorem zn_zt_273 : (zt 273).2 = 138 := zn_a zt_273 zn_zt_272 (by decide)
theorem zt_274 : zt 274 = (ru (zt 273).1 97 75 (some 137), (zt 273).2) := zt_p 273 274 97 75 137 (by decide) (by decide +kernel)
theorem zn_zt_274 : (zt 274).2 = 138 := zn_p zt_274 zn_zt_273
theorem zt_275 : zt 275 = (rz (zt 274).1 (zt 274).2, (zt 274).2 + 1) := zt_a 274 275 (by decide) (by decide +kernel)
theorem zn_zt_275 : (zt 275).2 = 139 := zn_a zt_275 zn_zt_274 (by decide)
theorem zt_276 : zt 276 = (ru (zt 275).1 97 76 (some 138), (zt 275).2) := zt_p 275 276 97 76 138 (by decide) (by decide +kernel)
theorem zn_zt_276 : (zt 276).2 = 139 := zn_p zt_276 zn_zt_275
theorem zt_277 : zt 277 = (rz (zt 276).1 (zt 276).2, (zt 276).2 + 1) := zt_a 276 277 (by decide) (by decide +kernel)
theorem zn_zt_277 : (zt 277).2 = 140 := zn_a zt_277 zn_zt_276 (by decide)
theorem zt_278 : zt 278 = (ru (zt 277).1 97 77 (some 139), (zt 277).2) := zt_p 277 278 97 77 139 (by decide) (by decide +kernel)
theorem zn_zt_278 : (zt 278).2 = 140 := zn_p zt_278 zn_zt_277
theorem zt_279 : zt 279 = (rz (zt 278).1 (zt 278).2, (zt 278).2 + 1) := zt_a 278 279 (by decide) (by decide +kernel)
theorem zn_zt_279 : (zt 279).2 = 141 := zn_a zt_279 zn_zt_278 (by decide)
theorem zt_280 : zt 280 = (ru (zt 279).1 97 79 (some 140), (zt 279).2) := zt_p 279 280 97 79 140 (by decide) (by decide +kernel)
theorem zn_zt_280 : (zt 280).2 = 141 := zn_p zt_280 zn_zt_279
theorem zt_281 : zt 281 = (rz (zt 280).1 (zt 280).2, (zt 280).2 + 1) := zt_a 280 281 (by decide) (by decide +kernel)
theorem zn_zt_281 : (zt 281).2 = 142 := zn_a zt_281 zn_zt_280 (by decide)
theorem zt_282 : zt 282 = (ru (zt 281).1 97 80 (some 141), (zt 281).2) := zt_p 281 282 97 80 141 (by decide) (by decide +kernel)
theorem zn_zt_282 : (zt 282).2 = 142 := zn_p zt_282 zn_zt_281
theorem zt_283 : zt 283 = (rz (zt 282).1 (zt 282).2, (zt 282).2 + 1) := zt_a 282 283 (by decide) (by decide +kernel)
theorem zn_zt_283 : (zt 283).2 = 143 := zn_a zt_283 zn_zt_282 (by decide)
theorem zt_284 : zt 284 = (ru (zt 283).1 97 81 (some 142), (zt 283).2) := zt_p 283 284 97 81 142 (by decide) (by decide +kernel)
theorem zn_zt_284 : (zt 284).2 = 143 := zn_p zt_284 zn_zt_283
theorem zt_285 : zt 285 = (rz (zt 284).1 (zt 284).2, (zt 284).2 + 1) := zt_a 284 285 (by decide) (by decide +kernel)
theorem zn_zt_285 : (zt 285).2 = 144 := zn_a zt_285 zn_zt_284 (by decide)
theorem rt_284_97_6 : (zt 284).1 97 6 = some 99 := by decide +kernel
theorem rt_284_97_7 : (zt 284).1 97 7 = some 100 := by decide +kernel
theorem rt_284_97_9 : (zt 284).1 97 9 = some 102 := by decide +kernel
theorem g_iald0 {l : Launch} {d mc ms : Nat} {i : MT} {z : ZR} {pc : Nat} {ls st : List AV} {h : HI} {Q : Option AV → HI → ZR → Prop} {a len : Nat} {x v : Int} (hd : decode i.2.1 pc = .ok (.iaload, 1)) (hs : SH a = .inr (0, len)) (ha : a < z.2) (hlen : len ≤ 2147483647) (h1 : 0 ≤ x ∧ x < len) (hv : h a x = v) (kk : G l d mc ms i z (pc + 1) ls (aI v :: st) h Q) : G l d mc ms i z pc ls (aI x :: aP a :: st) h Q := g_iald hd hs ha hlen h1 (by rw [hv]; exact kk)
