set_option maxRecDepth 4000 in
theorem k_X7_init_1 {l : Launch} {D : Nat} {h : HI} (h0 : ∀ a q, 2 ≤ a → a < 1000000 → h a q = 0) : Ret l (D + 1) 1 540 mX7_init (zt 2) [aP 1] h (fun v h' z' => v = none ∧ h' = (hu h 1 7 (-1)) ∧ z' = (zt 4)) := by
  refine Ret.of 0 pn_X7 [aP 1] rfl rfl ?_
  refine g_aload_n dX7_init_0 rfl ?_
  refine g_obj dX7_init_1 ob_X7_3 (Nat.le_of_ble_eq_true rfl) ?_
  refine g_aload_n dX7_init_4 rfl ?_
  refine g_sipush dX7_init_5 rfl ?_
  refine g_newarr0 (N := 540) (n := 2) (z' := (zt 3)) (mc' := 0) (ms' := 0) zn_zt_2 zt_3 dX7_init_8 ac_1 rfl (by decide) sh_2 (by decide) rfl (zb_zt 2) (by decide) (fun q => (far_le (N2 := 2) (by decide) h0) 2 q (by decide) (by decide)) rfl rfl rfl rfl ?_
  refine g_putF0 (z' := (zt 4)) zt_4 dX7_init_10 fl_X7_11 sh_1 (by rw [zn_zt_3]; decide) (fun _ _ _ => rfl) (narR rfl) rfl rfl ?_
  refine g_aload_n dX7_init_13 rfl ?_
  refine g_iconst dX7_init_14 ?_
  refine g_putI (J := 7) dX7_init_15 fl_X7_15 sh_1 (by rw [zn_zt_4]; decide) rfl rfl ?_
  exact g_retv dX7_init_18 rfl ⟨rfl, rfl, rfl⟩
set_option maxRecDepth 4000 in
theorem k_X0_init_4 {l : Launch} {D : Nat} {h : HI} (h0 : ∀ a q, 5 ≤ a → a < 1000000 → h a q = 0) : Ret l (D + 1) 3 23 mX0_init (zt 7) [aP 4] h (fun v h' z' => v = none ∧ h' = (hlu h 7) ∧ z' = (zt 13)) := by
  refine Ret.of 0 pn_X0 [aP 4] rfl rfl ?_
  refine g_aload_n dX0_init_0 rfl ?_
  refine g_obj dX0_init_1 ob_X0_3 (Nat.le_of_ble_eq_true rfl) ?_
  refine g_aload_n dX0_init_4 rfl ?_
  refine g_bipush dX0_init_5 rfl ?_
  refine g_newarr0 (N := 6) (n := 5) (z' := (zt 8)) (mc' := 2) (ms' := 17) zn_zt_7 zt_8 dX0_init_7 ac_0 rfl (by decide) sh_5 (by decide) rfl (zb_zt 7) (by decide) (fun q => (far_le (N2 := 5) (by decide) h0) 5 q (by decide) (by decide)) rfl rfl rfl rfl ?_
  refine g_putF0 (z' := (zt 9)) zt_9 dX0_init_9 fl_X0_9 sh_4 (by rw [zn_zt_8]; decide) (fun _ _ _ => rfl) (narR rfl) rfl rfl ?_
  refine g_aload_n dX0_init_12 rfl ?_
  refine g_bipush dX0_init_13 rfl ?_
  refine g_newarr0 (N := 8) (n := 6) (z' := (zt 10)) (mc' := 1) (ms' := 9) zn_zt_9 zt_10 dX0_init_15 ac_0 rfl (by decide) sh_6 (by decide) rfl (zb_zt 9) (by decide) (fun q => (far_le (N2 := 6) (by decide) h0) 6 q (by decide) (by decide)) rfl rfl rfl rfl ?_
  refine g_putF0 (z' := (zt 11)) zt_11 dX0_init_17 fl_X0_15 sh_4 (by rw [zn_zt_10]; decide) (fun _ _ _ => rfl) (narR rfl) rfl rfl ?_
  refine g_aload_n dX0_init_20 rfl ?_
  refine g_law (t := 2) dX0_init_21 lw_X0_18 (by decide) ?_
  refine g_clone0 (n := 7) (z' := (zt 12)) (mc' := 0) (ms' := 0) zn_zt_11 zt_12 dX0_init_24 cn_X0_21 sh_7 (zb_zt 11) (by decide) rfl rfl rfl rfl (Nat.le_of_ble_eq_true rfl) ?_
  refine g_castI dX0_init_27 cl_X0_22 sh_7 (by rw [zn_zt_12]; decide) ?_
  refine g_putF0 (z' := (zt 13)) zt_13 dX0_init_30 fl_X0_26 sh_4 (by rw [zn_zt_12]; decide) (fun _ _ _ => rfl) (narR rfl) rfl rfl ?_
  exact g_retv dX0_init_33 rfl ⟨rfl, rfl, rfl⟩
set_option maxRecDepth 4000 in
theorem k_X3_init_8 {l : Launch} {D : Nat} {h : HI} (h0 : ∀ a q, 9 ≤ a → a < 1000000 → h a q = 0) : Ret l (D + 1) 1 40 mX3_init (zt 15) [aP 8] h (fun v h' z' => v = none ∧ h' = h ∧ z' = (zt 17)) := by
  refine Ret.of 0 pn_X3 [aP 8] rfl rfl ?_
  refine g_aload_n dX3_init_0 rfl ?_
  refine g_obj dX3_init_1 ob_X3_3 (Nat.le_of_ble_eq_true rfl) ?_
  refine g_aload_n dX3_init_4 rfl ?_
  refine g_bipush dX3_init_5 rfl ?_
  refine g_newarr0 (N := 40) (n := 9) (z' := (zt 16)) (mc' := 0) (ms' := 0) zn_zt_15 zt_16 dX3_init_7 ac_0 rfl (by decide) sh_9 (by decide) rfl (zb_zt 15) (by decide) (fun q => (far_le (N2 := 9) (by decide) h0) 9 q (by decide) (by decide)) rfl rfl rfl rfl ?_
  refine g_putF0 (z' := (zt 17)) zt_17 dX3_init_9 fl_X3_11 sh_8 (by rw [zn_zt_16]; decide) (fun _ _ _ => rfl) (narR rfl) rfl rfl ?_
  exact g_retv dX3_init_12 rfl ⟨rfl, rfl, rfl⟩
set_option maxRecDepth 4000 in
theorem k_X1_init_10 {l : Launch} {D : Nat} {h : HI} (h0 : ∀ a q, 11 ≤ a → a < 1000000 → h a q = 0) : Ret l (D + 1) 11 660 mX1_init (zt 19) [aP 10] h (fun v h' z' => v = none ∧ h' = h ∧ z' = (zt 41)) := by
  refine Ret.of 0 pn_X1 [aP 10] rfl rfl ?_
  refine g_aload_n dX1_init_0 rfl ?_
  refine g_obj dX1_init_1 ob_X1_3 (Nat.le_of_ble_eq_true rfl) ?_
  refine g_aload_n dX1_init_4 rfl ?_
  refine g_bipush dX1_init_5 rfl ?_
  refine g_newarr0 (N := 60) (n := 11) (z' := (zt 20)) (mc' := 10) (ms' := 600) zn_zt_19 zt_20 dX1_init_7 ac_0 rfl (by decide) sh_11 (by decide) rfl (zb_zt 19) (by decide) (fun q => (far_le (N2 := 11) (by decide) h0) 11 q (by decide) (by decide)) rfl rfl rfl rfl ?_
  refine g_putF0 (z' := (zt 21)) zt_21 dX1_init_9 fl_X1_9 sh_10 (by rw [zn_zt_20]; decide) (fun _ _ _ => rfl) (narR rfl) rfl rfl ?_
  refine g_aload_n dX1_init_12 rfl ?_
  refine g_sipush dX1_init_13 rfl ?_
  refine g_newarr0 (N := 400) (n := 12) (z' := (zt 22)) (mc' := 9) (ms' := 200) zn_zt_21 zt_22 dX1_init_16 ac_0 rfl (by decide) sh_12 (by decide) rfl (zb_zt 21) (by decide) (fun q => (far_le (N2 := 12) (by decide) h0) 12 q (by decide) (by decide)) rfl rfl rfl rfl ?_
  refine g_putF0 (z' := (zt 23)) zt_23 dX1_init_18 fl_X1_15 sh_10 (by rw [zn_zt_22]; decide) (fun _ _ _ => rfl) (narR rfl) rfl rfl ?_
  refine g_aload_n dX1_init_21 rfl ?_
  refine g_bipush dX1_init_22 rfl ?_
  refine g_newarr0 (N := 10) (n := 13) (z' := (zt 24)) (mc' := 8) (ms' := 190) zn_zt_23 zt_24 dX1_init_24 ac_0 rfl (by decide) sh_13 (by decide) rfl (zb_zt 23) (by decide) (fun q => (far_le (N2 := 13) (by decide) h0) 13 q (by decide) (by decide)) rfl rfl rfl rfl ?_
  refine g_putF0 (z' := (zt 25)) zt_25 dX1_init_26 fl_X1_18 sh_10 (by rw [zn_zt_24]; decide) (fun _ _ _ => rfl) (narR rfl) rfl rfl ?_
  refine g_aload_n dX1_init_29 rfl ?_
  refine g_bipush dX1_init_30 rfl ?_
  refine g_newarr0 (N := 10) (n := 14) (z' := (zt 26)) (mc' := 7) (ms' := 180) zn_zt_25 zt_26 dX1_init_32 ac_0 rfl (by decide) sh_14 (by decide) rfl (zb_zt 25) (by decide) (fun q => (far_le (N2 := 14) (by decide) h0) 14 q (by decide) (by decide)) rfl rfl rfl rfl ?_
  refine g_putF0 (z' := (zt 27)) zt_27 dX1_init_34 fl_X1_21 sh_10 (by rw [zn_zt_26]; decide) (fun _ _ _ => rfl) (narR rfl) rfl rfl ?_
  refine g_aload_n dX1_init_37 rfl ?_
  refine g_bipush dX1_init_38 rfl ?_
  refine g_newarr0 (N := 10) (n := 15) (z' := (zt 28)) (mc' := 6) (ms' := 170) zn_zt_27 zt_28 dX1_init_40 ac_0 rfl (by decide) sh_15 (by decide) rfl (zb_zt 27) (by decide) (fun q => (far_le (N2 := 15) (by decide) h0) 15 q (by decide) (by decide)) rfl rfl rfl rfl ?_
  refine g_putF0 (z' := (zt 29)) zt_29 dX1_init_42 fl_X1_24 sh_10 (by rw [zn_zt_28]; decide) (fun _ _ _ => rfl) (narR rfl) rfl rfl ?_
  refine g_aload_n dX1_init_45 rfl ?_
  refine g_bipush dX1_init_46 rfl ?_
  refine g_newarr0 (N := 10) (n := 16) (z' := (zt 30)) (mc' := 5) (ms' := 160) zn_zt_29 zt_30 dX1_init_48 ac_0 rfl (by decide) sh_16 (by decide) rfl (zb_zt 29) (by decide) (fun q => (far_le (N2 := 16) (by decide) h0) 16 q (by decide) (by decide)) rfl rfl rfl rfl ?_
  refine g_putF0 (z' := (zt 31)) zt_31 dX1_init_50 fl_X1_27 sh_10 (by rw [zn_zt_30]; decide) (fun _ _ _ => rfl) (narR rfl) rfl rfl ?_
  refine g_aload_n dX1_init_53 rfl ?_
  refine g_bipush dX1_init_54 rfl ?_
  refine g_newarr0 (N := 30) (n := 17) (z' := (zt 32)) (mc' := 4) (ms' := 130) zn_zt_31 zt_32 dX1_init_56 ac_0 rfl (by decide) sh_17 (by decide) rfl (zb_zt 31) (by decide) (fun q => (far_le (N2 := 17) (by decide) h0) 17 q (by decide) (by decide)) rfl rfl rfl rfl ?_
  refine g_putF0 (z' := (zt 33)) zt_33 dX1_init_58 fl_X1_30 sh_10 (by rw [zn_zt_32]; decide) (fun _ _ _ => rfl) (narR rfl) rfl rfl ?_
  refine g_aload_n dX1_init_61 rfl ?_
  refine g_bipush dX1_init_62 rfl ?_
  refine g_newarr0 (N := 30) (n := 18) (z' := (zt 34)) (mc' := 3) (ms' := 100) zn_zt_33 zt_34 dX1_init_64 ac_0 rfl (by decide) sh_18 (by decide) rfl (zb_zt 33) (by decide) (fun q => (far_le (N2 := 18) (by decide) h0) 18 q (by decide) (by decide)) rfl rfl rfl rfl ?_
  refine g_putF0 (z' := (zt 35)) zt_35 dX1_init_66 fl_X1_33 sh_10 (by rw [zn_zt_34]; decide) (fun _ _ _ => rfl) (narR rfl) rfl rfl ?_
  refine g_aload_n dX1_init_69 rfl ?_
  refine g_bipush dX1_init_70 rfl ?_
  refine g_newarr0 (N := 30) (n := 19) (z' := (zt 36)) (mc' := 2) (ms' := 70) zn_zt_35 zt_36 dX1_init_72 ac_0 rfl (by decide) sh_19 (by decide) rfl (zb_zt 35) (by decide) (fun q => (far_le (N2 := 19) (by decide) h0) 19 q (by decide) (by decide)) rfl rfl rfl rfl ?_
  refine g_putF0 (z' := (zt 37)) zt_37 dX1_init_74 fl_X1_36 sh_10 (by rw [zn_zt_36]; decide) (fun _ _ _ => rfl) (narR rfl) rfl rfl ?_
  refine g_aload_n dX1_init_77 rfl ?_
  refine g_bipush dX1_init_78 rfl ?_
  refine g_newarr0 (N := 30) (n := 20) (z' := (zt 38)) (mc' := 1) (ms' := 40) zn_zt_37 zt_38 dX1_init_80 ac_0 rfl (by decide) sh_20 (by decide) rfl (zb_zt 37) (by decide) (fun q => (far_le (N2 := 20) (by decide) h0) 20 q (by decide) (by decide)) rfl rfl rfl rfl ?_
  refine g_putF0 (z' := (zt 39)) zt_39 dX1_init_82 fl_X1_39 sh_10 (by rw [zn_zt_38]; decide) (fun _ _ _ => rfl) (narR rfl) rfl rfl ?_
  refine g_aload_n dX1_init_85 rfl ?_
  refine g_bipush dX1_init_86 rfl ?_
  refine g_newarr0 (N := 40) (n := 21) (z' := (zt 40)) (mc' := 0) (ms' := 0) zn_zt_39 zt_40 dX1_init_88 ac_0 rfl (by decide) sh_21 (by decide) rfl (zb_zt 39) (by decide) (fun q => (far_le (N2 := 21) (by decide) h0) 21 q (by decide) (by decide)) rfl rfl rfl rfl ?_
  refine g_putF0 (z' := (zt 41)) zt_41 dX1_init_90 fl_X1_42 sh_10 (by rw [zn_zt_40]; decide) (fun _ _ _ => rfl) (narR rfl) rfl rfl ?_
  exact g_retv dX1_init_93 rfl ⟨rfl, rfl, rfl⟩
set_option maxRecDepth 4000 in
theorem k_X5_init_3 {l : Launch} {D : Nat} {h : HI} (h0 : ∀ a q, 4 ≤ a → a < 1000000 → h a q = 0) : Ret l (D + 2) 29 1967 mX5_init (zt 6) [aP 3] h (fun v h' z' => v = none ∧ h' = (hlu h 7) ∧ z' = (zt 64)) := by
  refine Ret.of 0 pn_X5 [aP 3] rfl rfl ?_
  refine g_aload_n dX5_init_0 rfl ?_
  refine g_obj dX5_init_1 ob_X5_3 (Nat.le_of_ble_eq_true rfl) ?_
  refine g_aload_n dX5_init_4 rfl ?_
  refine g_new0 (n := 4) (z' := (zt 7)) (mc' := 28) (ms' := 1960) zn_zt_6 zt_7 dX5_init_5 nw_X5_9 sh_4 (zb_zt 6) (by decide) (fun q => (far_le (N2 := 4) (by decide) h0) 4 q (by decide) (by decide)) rfl rfl rfl rfl ?_
  refine g_dup dX5_init_8 rfl ?_
  refine g_callIN (n := 0) (As := []) (st := [aP 4, aP 3]) (mc' := 3) (ms' := 23) (mcR := 25) (msR := 1937) dX5_init_9 ml_X5_11 rfl rfl (Nat.le_of_ble_eq_true rfl) rfl rfl rfl rfl (Ret.mono (k_X0_init_4 (far_le (N2 := 5) (by decide) h0)) (fun v h' z' q => ?_))
  obtain ⟨rfl, rfl, rfl⟩ := q
  refine ⟨rfl, ?_⟩
  refine g_putF0 (z' := (zt 14)) zt_14 dX5_init_12 fl_X5_12 sh_3 (by rw [zn_zt_13]; decide) (fun _ _ _ => rfl) (narR rfl) rfl rfl ?_
  refine g_aload_n dX5_init_15 rfl ?_
  refine g_new0 (n := 8) (z' := (zt 15)) (mc' := 24) (ms' := 1934) zn_zt_14 zt_15 dX5_init_16 nw_X5_18 sh_8 (zb_zt 14) (by decide) (fun q => (hlu_far (by decide) (far_le (N2 := 8) (by decide) h0)) 8 q (by decide) (by decide)) rfl rfl rfl rfl ?_
  refine g_dup dX5_init_19 rfl ?_
  refine g_callIN (n := 0) (As := []) (st := [aP 8, aP 3]) (mc' := 1) (ms' := 40) (mcR := 23) (msR := 1894) dX5_init_20 ml_X5_20 rfl rfl (Nat.le_of_ble_eq_true rfl) rfl rfl rfl rfl (Ret.mono (k_X3_init_8 (hlu_far (by decide) (far_le (N2 := 9) (by decide) h0))) (fun v h' z' q => ?_))
  obtain ⟨rfl, rfl, rfl⟩ := q
  refine ⟨rfl, ?_⟩
  refine g_putF0 (z' := (zt 18)) zt_18 dX5_init_23 fl_X5_21 sh_3 (by rw [zn_zt_17]; decide) (fun _ _ _ => rfl) (narR rfl) rfl rfl ?_
  refine g_aload_n dX5_init_26 rfl ?_
  refine g_new0 (n := 10) (z' := (zt 19)) (mc' := 22) (ms' := 1880) zn_zt_18 zt_19 dX5_init_27 nw_X5_25 sh_10 (zb_zt 18) (by decide) (fun q => (hlu_far (by decide) (far_le (N2 := 10) (by decide) h0)) 10 q (by decide) (by decide)) rfl rfl rfl rfl ?_
  refine g_dup dX5_init_30 rfl ?_
  refine g_callIN (n := 0) (As := []) (st := [aP 10, aP 3]) (mc' := 11) (ms' := 660) (mcR := 11) (msR := 1220) dX5_init_31 ml_X5_27 rfl rfl (Nat.le_of_ble_eq_true rfl) rfl rfl rfl rfl (Ret.mono (k_X1_init_10 (hlu_far (by decide) (far_le (N2 := 11) (by decide) h0))) (fun v h' z' q => ?_))
  obtain ⟨rfl, rfl, rfl⟩ := q
  refine ⟨rfl, ?_⟩
  refine g_putF0 (z' := (zt 42)) zt_42 dX5_init_34 fl_X5_28 sh_3 (by rw [zn_zt_41]; decide) (fun _ _ _ => rfl) (narR rfl) rfl rfl ?_
  refine g_aload_n dX5_init_37 rfl ?_
  refine g_bipush dX5_init_38 rfl ?_
  refine g_newarr0 (N := 60) (n := 22) (z' := (zt 43)) (mc' := 10) (ms' := 1160) zn_zt_42 zt_43 dX5_init_40 ac_0 rfl (by decide) sh_22 (by decide) rfl (zb_zt 42) (by decide) (fun q => (hlu_far (by decide) (far_le (N2 := 22) (by decide) h0)) 22 q (by decide) (by decide)) rfl rfl rfl rfl ?_
  refine g_putF0 (z' := (zt 44)) zt_44 dX5_init_42 fl_X5_32 sh_3 (by rw [zn_zt_43]; decide) (fun _ _ _ => rfl) (narR rfl) rfl rfl ?_
  refine g_aload_n dX5_init_45 rfl ?_
  refine g_sipush dX5_init_46 rfl ?_
  refine g_newarr0 (N := 200) (n := 23) (z' := (zt 45)) (mc' := 9) (ms' := 960) zn_zt_44 zt_45 dX5_init_49 ac_0 rfl (by decide) sh_23 (by decide) rfl (zb_zt 44) (by decide) (fun q => (hlu_far (by decide) (far_le (N2 := 23) (by decide) h0)) 23 q (by decide) (by decide)) rfl rfl rfl rfl ?_
  refine g_putF0 (z' := (zt 46)) zt_46 dX5_init_51 fl_X5_36 sh_3 (by rw [zn_zt_45]; decide) (fun _ _ _ => rfl) (narR rfl) rfl rfl ?_
  refine g_aload_n dX5_init_54 rfl ?_
  refine g_sipush dX5_init_55 rfl ?_
  refine g_newarr0 (N := 200) (n := 24) (z' := (zt 47)) (mc' := 8) (ms' := 760) zn_zt_46 zt_47 dX5_init_58 ac_0 rfl (by decide) sh_24 (by decide) rfl (zb_zt 46) (by decide) (fun q => (hlu_far (by decide) (far_le (N2 := 24) (by decide) h0)) 24 q (by decide) (by decide)) rfl rfl rfl rfl ?_
  refine g_putF0 (z' := (zt 48)) zt_48 dX5_init_60 fl_X5_39 sh_3 (by rw [zn_zt_47]; decide) (fun _ _ _ => rfl) (narR rfl) rfl rfl ?_
  refine g_aload_n dX5_init_63 rfl ?_
  refine g_sipush dX5_init_64 rfl ?_
  refine g_newarr0 (N := 200) (n := 25) (z' := (zt 49)) (mc' := 7) (ms' := 560) zn_zt_48 zt_49 dX5_init_67 ac_0 rfl (by decide) sh_25 (by decide) rfl (zb_zt 48) (by decide) (fun q => (hlu_far (by decide) (far_le (N2 := 25) (by decide) h0)) 25 q (by decide) (by decide)) rfl rfl rfl rfl ?_
  refine g_putF0 (z' := (zt 50)) zt_50 dX5_init_69 fl_X5_42 sh_3 (by rw [zn_zt_49]; decide) (fun _ _ _ => rfl) (narR rfl) rfl rfl ?_
  refine g_aload_n dX5_init_72 rfl ?_
  refine g_sipush dX5_init_73 rfl ?_
  refine g_newarr0 (N := 200) (n := 26) (z' := (zt 51)) (mc' := 6) (ms' := 360) zn_zt_50 zt_51 dX5_init_76 ac_0 rfl (by decide) sh_26 (by decide) rfl (zb_zt 50) (by decide) (fun q => (hlu_far (by decide) (far_le (N2 := 26) (by decide) h0)) 26 q (by decide) (by decide)) rfl rfl rfl rfl ?_
  refine g_putF0 (z' := (zt 52)) zt_52 dX5_init_78 fl_X5_45 sh_3 (by rw [zn_zt_51]; decide) (fun _ _ _ => rfl) (narR rfl) rfl rfl ?_
  refine g_aload_n dX5_init_81 rfl ?_
  refine g_bipush dX5_init_82 rfl ?_
  refine g_newarr0 (N := 60) (n := 27) (z' := (zt 53)) (mc' := 5) (ms' := 300) zn_zt_52 zt_53 dX5_init_84 ac_0 rfl (by decide) sh_27 (by decide) rfl (zb_zt 52) (by decide) (fun q => (hlu_far (by decide) (far_le (N2 := 27) (by decide) h0)) 27 q (by decide) (by decide)) rfl rfl rfl rfl ?_
  refine g_putF0 (z' := (zt 54)) zt_54 dX5_init_86 fl_X5_48 sh_3 (by rw [zn_zt_53]; decide) (fun _ _ _ => rfl) (narR rfl) rfl rfl ?_
  refine g_aload_n dX5_init_89 rfl ?_
  refine g_bipush dX5_init_90 rfl ?_
  refine g_newarr0 (N := 60) (n := 28) (z' := (zt 55)) (mc' := 4) (ms' := 240) zn_zt_54 zt_55 dX5_init_92 ac_0 rfl (by decide) sh_28 (by decide) rfl (zb_zt 54) (by decide) (fun q => (hlu_far (by decide) (far_le (N2 := 28) (by decide) h0)) 28 q (by decide) (by decide)) rfl rfl rfl rfl ?_
  refine g_putF0 (z' := (zt 56)) zt_56 dX5_init_94 fl_X5_51 sh_3 (by rw [zn_zt_55]; decide) (fun _ _ _ => rfl) (narR rfl) rfl rfl ?_
  refine g_aload_n dX5_init_97 rfl ?_
  refine g_bipush dX5_init_98 rfl ?_
  refine g_newarr0 (N := 60) (n := 29) (z' := (zt 57)) (mc' := 3) (ms' := 180) zn_zt_56 zt_57 dX5_init_100 ac_0 rfl (by decide) sh_29 (by decide) rfl (zb_zt 56) (by decide) (fun q => (hlu_far (by decide) (far_le (N2 := 29) (by decide) h0)) 29 q (by decide) (by decide)) rfl rfl rfl rfl ?_
  refine g_putF0 (z' := (zt 58)) zt_58 dX5_init_102 fl_X5_54 sh_3 (by rw [zn_zt_57]; decide) (fun _ _ _ => rfl) (narR rfl) rfl rfl ?_
  refine g_aload_n dX5_init_105 rfl ?_
  refine g_bipush dX5_init_106 rfl ?_
  refine g_newarr0 (N := 60) (n := 30) (z' := (zt 59)) (mc' := 2) (ms' := 120) zn_zt_58 zt_59 dX5_init_108 ac_0 rfl (by decide) sh_30 (by decide) rfl (zb_zt 58) (by decide) (fun q => (hlu_far (by decide) (far_le (N2 := 30) (by decide) h0)) 30 q (by decide) (by decide)) rfl rfl rfl rfl ?_
  refine g_putF0 (z' := (zt 60)) zt_60 dX5_init_110 fl_X5_57 sh_3 (by rw [zn_zt_59]; decide) (fun _ _ _ => rfl) (narR rfl) rfl rfl ?_
  refine g_aload_n dX5_init_113 rfl ?_
  refine g_bipush dX5_init_114 rfl ?_
  refine g_newarr0 (N := 60) (n := 31) (z' := (zt 61)) (mc' := 1) (ms' := 60) zn_zt_60 zt_61 dX5_init_116 ac_0 rfl (by decide) sh_31 (by decide) rfl (zb_zt 60) (by decide) (fun q => (hlu_far (by decide) (far_le (N2 := 31) (by decide) h0)) 31 q (by decide) (by decide)) rfl rfl rfl rfl ?_
  refine g_putF0 (z' := (zt 62)) zt_62 dX5_init_118 fl_X5_60 sh_3 (by rw [zn_zt_61]; decide) (fun _ _ _ => rfl) (narR rfl) rfl rfl ?_
  refine g_aload_n dX5_init_121 rfl ?_
  refine g_bipush dX5_init_122 rfl ?_
  refine g_newarr0 (N := 60) (n := 32) (z' := (zt 63)) (mc' := 0) (ms' := 0) zn_zt_62 zt_63 dX5_init_124 ac_0 rfl (by decide) sh_32 (by decide) rfl (zb_zt 62) (by decide) (fun q => (hlu_far (by decide) (far_le (N2 := 32) (by decide) h0)) 32 q (by decide) (by decide)) rfl rfl rfl rfl ?_
  refine g_putF0 (z' := (zt 64)) zt_64 dX5_init_126 fl_X5_63 sh_3 (by rw [zn_zt_63]; decide) (fun _ _ _ => rfl) (narR rfl) rfl rfl ?_
  exact g_retv dX5_init_129 rfl ⟨rfl, rfl, rfl⟩
set_option maxRecDepth 4000 in
theorem k_X0_init_34 {l : Launch} {D : Nat} {h : HI} (h0 : ∀ a q, 35 ≤ a → a < 1000000 → h a q = 0) : Ret l (D + 1) 3 23 mX0_init (zt 68) [aP 34] h (fun v h' z' => v = none ∧ h' = (hlu h 37) ∧ z' = (zt 74)) := by
  refine Ret.of 0 pn_X0 [aP 34] rfl rfl ?_
  refine g_aload_n dX0_init_0 rfl ?_
  refine g_obj dX0_init_1 ob_X0_3 (Nat.le_of_ble_eq_true rfl) ?_
  refine g_aload_n dX0_init_4 rfl ?_
  refine g_bipush dX0_init_5 rfl ?_
  refine g_newarr0 (N := 6) (n := 35) (z' := (zt 69)) (mc' := 2) (ms' := 17) zn_zt_68 zt_69 dX0_init_7 ac_0 rfl (by decide) sh_35 (by decide) rfl (zb_zt 68) (by decide) (fun q => (far_le (N2 := 35) (by decide) h0) 35 q (by decide) (by decide)) rfl rfl rfl rfl ?_
  refine g_putF0 (z' := (zt 70)) zt_70 dX0_init_9 fl_X0_9 sh_34 (by rw [zn_zt_69]; decide) (fun _ _ _ => rfl) (narR rfl) rfl rfl ?_
  refine g_aload_n dX0_init_12 rfl ?_
  refine g_bipush dX0_init_13 rfl ?_
  refine g_newarr0 (N := 8) (n := 36) (z' := (zt 71)) (mc' := 1) (ms' := 9) zn_zt_70 zt_71 dX0_init_15 ac_0 rfl (by decide) sh_36 (by decide) rfl (zb_zt 70) (by decide) (fun q => (far_le (N2 := 36) (by decide) h0) 36 q (by decide) (by decide)) rfl rfl rfl rfl ?_
  refine g_putF0 (z' := (zt 72)) zt_72 dX0_init_17 fl_X0_15 sh_34 (by rw [zn_zt_71]; decide) (fun _ _ _ => rfl) (narR rfl) rfl rfl ?_
  refine g_aload_n dX0_init_20 rfl ?_
  refine g_law (t := 2) dX0_init_21 lw_X0_18 (by decide) ?_
  refine g_clone0 (n := 37) (z' := (zt 73)) (mc' := 0) (ms' := 0) zn_zt_72 zt_73 dX0_init_24 cn_X0_21 sh_37 (zb_zt 72) (by decide) rfl rfl rfl rfl (Nat.le_of_ble_eq_true rfl) ?_
  refine g_castI dX0_init_27 cl_X0_22 sh_37 (by rw [zn_zt_73]; decide) ?_
  refine g_putF0 (z' := (zt 74)) zt_74 dX0_init_30 fl_X0_26 sh_34 (by rw [zn_zt_73]; decide) (fun _ _ _ => rfl) (narR rfl) rfl rfl ?_
  exact g_retv dX0_init_33 rfl ⟨rfl, rfl, rfl⟩
set_option maxRecDepth 4000 in
theorem k_X3_init_38 {l : Launch} {D : Nat} {h : HI} (h0 : ∀ a q, 39 ≤ a → a < 1000000 → h a q = 0) : Ret l (D + 1) 1 40 mX3_init (zt 76) [aP 38] h (fun v h' z' => v = none ∧ h' = h ∧ z' = (zt 78)) := by
  refine Ret.of 0 pn_X3 [aP 38] rfl rfl ?_
  refine g_aload_n dX3_init_0 rfl ?_
  refine g_obj dX3_init_1 ob_X3_3 (Nat.le_of_ble_eq_true rfl) ?_
  refine g_aload_n dX3_init_4 rfl ?_
  refine g_bipush dX3_init_5 rfl ?_
  refine g_newarr0 (N := 40) (n := 39) (z' := (zt 77)) (mc' := 0) (ms' := 0) zn_zt_76 zt_77 dX3_init_7 ac_0 rfl (by decide) sh_39 (by decide) rfl (zb_zt 76) (by decide) (fun q => (far_le (N2 := 39) (by decide) h0) 39 q (by decide) (by decide)) rfl rfl rfl rfl ?_
  refine g_putF0 (z' := (zt 78)) zt_78 dX3_init_9 fl_X3_11 sh_38 (by rw [zn_zt_77]; decide) (fun _ _ _ => rfl) (narR rfl) rfl rfl ?_
  exact g_retv dX3_init_12 rfl ⟨rfl, rfl, rfl⟩
set_option maxRecDepth 4000 in
theorem k_X8_init_40 {l : Launch} {D : Nat} {h : HI} (h0 : ∀ a q, 41 ≤ a → a < 1000000 → h a q = 0) : Ret l (D + 1) 10 738 mX8_init (zt 80) [aP 40] h (fun v h' z' => v = none ∧ h' = (hu h 40 0 1) ∧ z' = (zt 100)) := by
  refine Ret.of 0 pn_X8 [aP 40] rfl rfl ?_
  refine g_aload_n dX8_init_0 rfl ?_
  refine g_obj dX8_init_1 ob_X8_3 (Nat.le_of_ble_eq_true rfl) ?_
  refine g_aload_n dX8_init_4 rfl ?_
  refine g_iconst dX8_init_5 ?_
  refine g_putZ (J := 0) dX8_init_6 fl_X8_9 sh_40 (by rw [zn_zt_80]; decide) rfl rfl (Or.inr rfl) ?_
  refine g_aload_n dX8_init_9 rfl ?_
  refine g_bipush dX8_init_10 rfl ?_
  refine g_newarr0 (N := 6) (n := 41) (z' := (zt 81)) (mc' := 9) (ms' := 732) zn_zt_80 zt_81 dX8_init_12 ac_3 rfl (by decide) sh_41 (by decide) rfl (zb_zt 80) (by decide) (fun q => (hu_far (by decide) (far_le (N2 := 41) (by decide) h0)) 41 q (by decide) (by decide)) rfl rfl rfl rfl ?_
  refine g_putF0 (z' := (zt 82)) zt_82 dX8_init_14 fl_X8_15 sh_40 (by rw [zn_zt_81]; decide) (fun _ _ _ => rfl) (narR rfl) rfl rfl ?_
  refine g_aload_n dX8_init_17 rfl ?_
  refine g_bipush dX8_init_18 rfl ?_
  refine g_newarr0 (N := 6) (n := 42) (z' := (zt 83)) (mc' := 8) (ms' := 726) zn_zt_82 zt_83 dX8_init_20 ac_0 rfl (by decide) sh_42 (by decide) rfl (zb_zt 82) (by decide) (fun q => (hu_far (by decide) (far_le (N2 := 42) (by decide) h0)) 42 q (by decide) (by decide)) rfl rfl rfl rfl ?_
  refine g_putF0 (z' := (zt 84)) zt_84 dX8_init_22 fl_X8_19 sh_40 (by rw [zn_zt_83]; decide) (fun _ _ _ => rfl) (narR rfl) rfl rfl ?_
  refine g_aload_n dX8_init_25 rfl ?_
  refine g_bipush dX8_init_26 rfl ?_
  refine g_newarr0 (N := 6) (n := 43) (z' := (zt 85)) (mc' := 7) (ms' := 720) zn_zt_84 zt_85 dX8_init_28 ac_0 rfl (by decide) sh_43 (by decide) rfl (zb_zt 84) (by decide) (fun q => (hu_far (by decide) (far_le (N2 := 43) (by decide) h0)) 43 q (by decide) (by decide)) rfl rfl rfl rfl ?_
  refine g_putF0 (z' := (zt 86)) zt_86 dX8_init_30 fl_X8_23 sh_40 (by rw [zn_zt_85]; decide) (fun _ _ _ => rfl) (narR rfl) rfl rfl ?_
  refine g_aload_n dX8_init_33 rfl ?_
  refine g_bipush dX8_init_34 rfl ?_
  refine g_newarr0 (N := 60) (n := 44) (z' := (zt 87)) (mc' := 6) (ms' := 660) zn_zt_86 zt_87 dX8_init_36 ac_0 rfl (by decide) sh_44 (by decide) rfl (zb_zt 86) (by decide) (fun q => (hu_far (by decide) (far_le (N2 := 44) (by decide) h0)) 44 q (by decide) (by decide)) rfl rfl rfl rfl ?_
  refine g_putF0 (z' := (zt 88)) zt_88 dX8_init_38 fl_X8_26 sh_40 (by rw [zn_zt_87]; decide) (fun _ _ _ => rfl) (narR rfl) rfl rfl ?_
  refine g_aload_n dX8_init_41 rfl ?_
  refine g_bipush dX8_init_42 rfl ?_
  refine g_newarr0 (N := 60) (n := 45) (z' := (zt 89)) (mc' := 5) (ms' := 600) zn_zt_88 zt_89 dX8_init_44 ac_0 rfl (by decide) sh_45 (by decide) rfl (zb_zt 88) (by decide) (fun q => (hu_far (by decide) (far_le (N2 := 45) (by decide) h0)) 45 q (by decide) (by decide)) rfl rfl rfl rfl ?_
  refine g_putF0 (z' := (zt 90)) zt_90 dX8_init_46 fl_X8_29 sh_40 (by rw [zn_zt_89]; decide) (fun _ _ _ => rfl) (narR rfl) rfl rfl ?_
  refine g_aload_n dX8_init_49 rfl ?_
  refine g_bipush dX8_init_50 rfl ?_
  refine g_newarr0 (N := 60) (n := 46) (z' := (zt 91)) (mc' := 4) (ms' := 540) zn_zt_90 zt_91 dX8_init_52 ac_0 rfl (by decide) sh_46 (by decide) rfl (zb_zt 90) (by decide) (fun q => (hu_far (by decide) (far_le (N2 := 46) (by decide) h0)) 46 q (by decide) (by decide)) rfl rfl rfl rfl ?_
  refine g_putF0 (z' := (zt 92)) zt_92 dX8_init_54 fl_X8_32 sh_40 (by rw [zn_zt_91]; decide) (fun _ _ _ => rfl) (narR rfl) rfl rfl ?_
  refine g_aload_n dX8_init_57 rfl ?_
  refine g_bipush dX8_init_58 rfl ?_
  refine g_newarr0 (N := 60) (n := 47) (z' := (zt 93)) (mc' := 3) (ms' := 480) zn_zt_92 zt_93 dX8_init_60 ac_0 rfl (by decide) sh_47 (by decide) rfl (zb_zt 92) (by decide) (fun q => (hu_far (by decide) (far_le (N2 := 47) (by decide) h0)) 47 q (by decide) (by decide)) rfl rfl rfl rfl ?_
  refine g_putF0 (z' := (zt 94)) zt_94 dX8_init_62 fl_X8_35 sh_40 (by rw [zn_zt_93]; decide) (fun _ _ _ => rfl) (narR rfl) rfl rfl ?_
  refine g_aload_n dX8_init_65 rfl ?_
  refine g_bipush dX8_init_66 rfl ?_
  refine g_newarr0 (N := 60) (n := 48) (z' := (zt 95)) (mc' := 2) (ms' := 420) zn_zt_94 zt_95 dX8_init_68 ac_0 rfl (by decide) sh_48 (by decide) rfl (zb_zt 94) (by decide) (fun q => (hu_far (by decide) (far_le (N2 := 48) (by decide) h0)) 48 q (by decide) (by decide)) rfl rfl rfl rfl ?_
  refine g_putF0 (z' := (zt 96)) zt_96 dX8_init_70 fl_X8_38 sh_40 (by rw [zn_zt_95]; decide) (fun _ _ _ => rfl) (narR rfl) rfl rfl ?_
  refine g_aload_n dX8_init_73 rfl ?_
  refine g_sipush dX8_init_74 rfl ?_
  refine g_newarr0 (N := 360) (n := 49) (z' := (zt 97)) (mc' := 1) (ms' := 60) zn_zt_96 zt_97 dX8_init_77 ac_0 rfl (by decide) sh_49 (by decide) rfl (zb_zt 96) (by decide) (fun q => (hu_far (by decide) (far_le (N2 := 49) (by decide) h0)) 49 q (by decide) (by decide)) rfl rfl rfl rfl ?_
  refine g_putF0 (z' := (zt 98)) zt_98 dX8_init_79 fl_X8_41 sh_40 (by rw [zn_zt_97]; decide) (fun _ _ _ => rfl) (narR rfl) rfl rfl ?_
  refine g_aload_n dX8_init_82 rfl ?_
  refine g_bipush dX8_init_83 rfl ?_
  refine g_newarr0 (N := 60) (n := 50) (z' := (zt 99)) (mc' := 0) (ms' := 0) zn_zt_98 zt_99 dX8_init_85 ac_0 rfl (by decide) sh_50 (by decide) rfl (zb_zt 98) (by decide) (fun q => (hu_far (by decide) (far_le (N2 := 50) (by decide) h0)) 50 q (by decide) (by decide)) rfl rfl rfl rfl ?_
  refine g_putF0 (z' := (zt 100)) zt_100 dX8_init_87 fl_X8_44 sh_40 (by rw [zn_zt_99]; decide) (fun _ _ _ => rfl) (narR rfl) rfl rfl ?_
  exact g_retv dX8_init_90 rfl ⟨rfl, rfl, rfl⟩
set_option maxRecDepth 4000 in
theorem k_X2_init_52 {l : Launch} {D : Nat} {h : HI} (h0 : ∀ a q, 53 ≤ a → a < 1000000 → h a q = 0) : Ret l (D + 1) 12 772 mX2_init (zt 104) [aP 52] h (fun v h' z' => v = none ∧ h' = h ∧ z' = (zt 128)) := by
  refine Ret.of 0 pn_X2 [aP 52] rfl rfl ?_
  refine g_aload_n dX2_init_0 rfl ?_
  refine g_obj dX2_init_1 ob_X2_5 (Nat.le_of_ble_eq_true rfl) ?_
  refine g_aload_n dX2_init_4 rfl ?_
  refine g_bipush dX2_init_5 rfl ?_
  refine g_newarr0 (N := 12) (n := 53) (z' := (zt 105)) (mc' := 11) (ms' := 760) zn_zt_104 zt_105 dX2_init_7 ac_0 rfl (by decide) sh_53 (by decide) rfl (zb_zt 104) (by decide) (fun q => (far_le (N2 := 53) (by decide) h0) 53 q (by decide) (by decide)) rfl rfl rfl rfl ?_
  refine g_putF0 (z' := (zt 106)) zt_106 dX2_init_9 fl_X2_11 sh_52 (by rw [zn_zt_105]; decide) (fun _ _ _ => rfl) (narR rfl) rfl rfl ?_
  refine g_aload_n dX2_init_12 rfl ?_
  refine g_bipush dX2_init_13 rfl ?_
  refine g_newarr0 (N := 12) (n := 54) (z' := (zt 107)) (mc' := 10) (ms' := 748) zn_zt_106 zt_107 dX2_init_15 ac_0 rfl (by decide) sh_54 (by decide) rfl (zb_zt 106) (by decide) (fun q => (far_le (N2 := 54) (by decide) h0) 54 q (by decide) (by decide)) rfl rfl rfl rfl ?_
  refine g_putF0 (z' := (zt 108)) zt_108 dX2_init_17 fl_X2_15 sh_52 (by rw [zn_zt_107]; decide) (fun _ _ _ => rfl) (narR rfl) rfl rfl ?_
  refine g_aload_n dX2_init_20 rfl ?_
  refine g_bipush dX2_init_21 rfl ?_
  refine g_newarr0 (N := 12) (n := 55) (z' := (zt 109)) (mc' := 9) (ms' := 736) zn_zt_108 zt_109 dX2_init_23 ac_0 rfl (by decide) sh_55 (by decide) rfl (zb_zt 108) (by decide) (fun q => (far_le (N2 := 55) (by decide) h0) 55 q (by decide) (by decide)) rfl rfl rfl rfl ?_
  refine g_putF0 (z' := (zt 110)) zt_110 dX2_init_25 fl_X2_18 sh_52 (by rw [zn_zt_109]; decide) (fun _ _ _ => rfl) (narR rfl) rfl rfl ?_
  refine g_aload_n dX2_init_28 rfl ?_
  refine g_bipush dX2_init_29 rfl ?_
  refine g_newarr0 (N := 12) (n := 56) (z' := (zt 111)) (mc' := 8) (ms' := 724) zn_zt_110 zt_111 dX2_init_31 ac_0 rfl (by decide) sh_56 (by decide) rfl (zb_zt 110) (by decide) (fun q => (far_le (N2 := 56) (by decide) h0) 56 q (by decide) (by decide)) rfl rfl rfl rfl ?_
  refine g_putF0 (z' := (zt 112)) zt_112 dX2_init_33 fl_X2_21 sh_52 (by rw [zn_zt_111]; decide) (fun _ _ _ => rfl) (narR rfl) rfl rfl ?_
  refine g_aload_n dX2_init_36 rfl ?_
  refine g_bipush dX2_init_37 rfl ?_
  refine g_newarr0 (N := 12) (n := 57) (z' := (zt 113)) (mc' := 7) (ms' := 712) zn_zt_112 zt_113 dX2_init_39 ac_0 rfl (by decide) sh_57 (by decide) rfl (zb_zt 112) (by decide) (fun q => (far_le (N2 := 57) (by decide) h0) 57 q (by decide) (by decide)) rfl rfl rfl rfl ?_
  refine g_putF0 (z' := (zt 114)) zt_114 dX2_init_41 fl_X2_24 sh_52 (by rw [zn_zt_113]; decide) (fun _ _ _ => rfl) (narR rfl) rfl rfl ?_
  refine g_aload_n dX2_init_44 rfl ?_
  refine g_bipush dX2_init_45 rfl ?_
  refine g_newarr0 (N := 12) (n := 58) (z' := (zt 115)) (mc' := 6) (ms' := 700) zn_zt_114 zt_115 dX2_init_47 ac_0 rfl (by decide) sh_58 (by decide) rfl (zb_zt 114) (by decide) (fun q => (far_le (N2 := 58) (by decide) h0) 58 q (by decide) (by decide)) rfl rfl rfl rfl ?_
  refine g_putF0 (z' := (zt 116)) zt_116 dX2_init_49 fl_X2_27 sh_52 (by rw [zn_zt_115]; decide) (fun _ _ _ => rfl) (narR rfl) rfl rfl ?_
  refine g_aload_n dX2_init_52 rfl ?_
  refine g_bipush dX2_init_53 rfl ?_
  refine g_newarr0 (N := 12) (n := 59) (z' := (zt 117)) (mc' := 5) (ms' := 688) zn_zt_116 zt_117 dX2_init_55 ac_0 rfl (by decide) sh_59 (by decide) rfl (zb_zt 116) (by decide) (fun q => (far_le (N2 := 59) (by decide) h0) 59 q (by decide) (by decide)) rfl rfl rfl rfl ?_
  refine g_putF0 (z' := (zt 118)) zt_118 dX2_init_57 fl_X2_30 sh_52 (by rw [zn_zt_117]; decide) (fun _ _ _ => rfl) (narR rfl) rfl rfl ?_
  refine g_aload_n dX2_init_60 rfl ?_
  refine g_sipush dX2_init_61 rfl ?_
  refine g_newarr0 (N := 169) (n := 60) (z' := (zt 119)) (mc' := 4) (ms' := 519) zn_zt_118 zt_119 dX2_init_64 ac_0 rfl (by decide) sh_60 (by decide) rfl (zb_zt 118) (by decide) (fun q => (far_le (N2 := 60) (by decide) h0) 60 q (by decide) (by decide)) rfl rfl rfl rfl ?_
  refine g_putF0 (z' := (zt 120)) zt_120 dX2_init_66 fl_X2_33 sh_52 (by rw [zn_zt_119]; decide) (fun _ _ _ => rfl) (narR rfl) rfl rfl ?_
  refine g_aload_n dX2_init_69 rfl ?_
  refine g_sipush dX2_init_70 rfl ?_
  refine g_newarr0 (N := 169) (n := 61) (z' := (zt 121)) (mc' := 3) (ms' := 350) zn_zt_120 zt_121 dX2_init_73 ac_0 rfl (by decide) sh_61 (by decide) rfl (zb_zt 120) (by decide) (fun q => (far_le (N2 := 61) (by decide) h0) 61 q (by decide) (by decide)) rfl rfl rfl rfl ?_
  refine g_putF0 (z' := (zt 122)) zt_122 dX2_init_75 fl_X2_36 sh_52 (by rw [zn_zt_121]; decide) (fun _ _ _ => rfl) (narR rfl) rfl rfl ?_
  refine g_aload_n dX2_init_78 rfl ?_
  refine g_sipush dX2_init_79 rfl ?_
  refine g_newarr0 (N := 169) (n := 62) (z' := (zt 123)) (mc' := 2) (ms' := 181) zn_zt_122 zt_123 dX2_init_82 ac_0 rfl (by decide) sh_62 (by decide) rfl (zb_zt 122) (by decide) (fun q => (far_le (N2 := 62) (by decide) h0) 62 q (by decide) (by decide)) rfl rfl rfl rfl ?_
  refine g_putF0 (z' := (zt 124)) zt_124 dX2_init_84 fl_X2_39 sh_52 (by rw [zn_zt_123]; decide) (fun _ _ _ => rfl) (narR rfl) rfl rfl ?_
  refine g_aload_n dX2_init_87 rfl ?_
  refine g_sipush dX2_init_88 rfl ?_
  refine g_newarr0 (N := 169) (n := 63) (z' := (zt 125)) (mc' := 1) (ms' := 12) zn_zt_124 zt_125 dX2_init_91 ac_0 rfl (by decide) sh_63 (by decide) rfl (zb_zt 124) (by decide) (fun q => (far_le (N2 := 63) (by decide) h0) 63 q (by decide) (by decide)) rfl rfl rfl rfl ?_
  refine g_putF0 (z' := (zt 126)) zt_126 dX2_init_93 fl_X2_42 sh_52 (by rw [zn_zt_125]; decide) (fun _ _ _ => rfl) (narR rfl) rfl rfl ?_
  refine g_aload_n dX2_init_96 rfl ?_
  refine g_bipush dX2_init_97 rfl ?_
  refine g_newarr0 (N := 12) (n := 64) (z' := (zt 127)) (mc' := 0) (ms' := 0) zn_zt_126 zt_127 dX2_init_99 ac_0 rfl (by decide) sh_64 (by decide) rfl (zb_zt 126) (by decide) (fun q => (far_le (N2 := 64) (by decide) h0) 64 q (by decide) (by decide)) rfl rfl rfl rfl ?_
  refine g_putF0 (z' := (zt 128)) zt_128 dX2_init_101 fl_X2_45 sh_52 (by rw [zn_zt_127]; decide) (fun _ _ _ => rfl) (narR rfl) rfl rfl ?_
  exact g_retv dX2_init_104 rfl ⟨rfl, rfl, rfl⟩
set_option maxRecDepth 4000 in
theorem k_X6_init_65 {l : Launch} {D : Nat} {h : HI} (h0 : ∀ a q, 66 ≤ a → a < 1000000 → h a q = 0) : Ret l (D + 1) 4 160 mX6_init (zt 130) [aP 65] h (fun v h' z' => v = none ∧ h' = h ∧ z' = (zt 138)) := by
  refine Ret.of 0 pn_X6 [aP 65] rfl rfl ?_
  refine g_aload_n dX6_init_0 rfl ?_
  refine g_obj dX6_init_1 ob_X6_1 (Nat.le_of_ble_eq_true rfl) ?_
  refine g_aload_n dX6_init_4 rfl ?_
  refine g_bipush dX6_init_5 rfl ?_
  refine g_newarr0 (N := 40) (n := 66) (z' := (zt 131)) (mc' := 3) (ms' := 120) zn_zt_130 zt_131 dX6_init_7 ac_0 rfl (by decide) sh_66 (by decide) rfl (zb_zt 130) (by decide) (fun q => (far_le (N2 := 66) (by decide) h0) 66 q (by decide) (by decide)) rfl rfl rfl rfl ?_
  refine g_putF0 (z' := (zt 132)) zt_132 dX6_init_9 fl_X6_9 sh_65 (by rw [zn_zt_131]; decide) (fun _ _ _ => rfl) (narR rfl) rfl rfl ?_
  refine g_aload_n dX6_init_12 rfl ?_
  refine g_bipush dX6_init_13 rfl ?_
  refine g_newarr0 (N := 40) (n := 67) (z' := (zt 133)) (mc' := 2) (ms' := 80) zn_zt_132 zt_133 dX6_init_15 ac_0 rfl (by decide) sh_67 (by decide) rfl (zb_zt 132) (by decide) (fun q => (far_le (N2 := 67) (by decide) h0) 67 q (by decide) (by decide)) rfl rfl rfl rfl ?_
  refine g_putF0 (z' := (zt 134)) zt_134 dX6_init_17 fl_X6_13 sh_65 (by rw [zn_zt_133]; decide) (fun _ _ _ => rfl) (narR rfl) rfl rfl ?_
  refine g_aload_n dX6_init_20 rfl ?_
  refine g_bipush dX6_init_21 rfl ?_
  refine g_newarr0 (N := 40) (n := 68) (z' := (zt 135)) (mc' := 1) (ms' := 40) zn_zt_134 zt_135 dX6_init_23 ac_0 rfl (by decide) sh_68 (by decide) rfl (zb_zt 134) (by decide) (fun q => (far_le (N2 := 68) (by decide) h0) 68 q (by decide) (by decide)) rfl rfl rfl rfl ?_
  refine g_putF0 (z' := (zt 136)) zt_136 dX6_init_25 fl_X6_16 sh_65 (by rw [zn_zt_135]; decide) (fun _ _ _ => rfl) (narR rfl) rfl rfl ?_
  refine g_aload_n dX6_init_28 rfl ?_
  refine g_bipush dX6_init_29 rfl ?_
  refine g_newarr0 (N := 40) (n := 69) (z' := (zt 137)) (mc' := 0) (ms' := 0) zn_zt_136 zt_137 dX6_init_31 ac_0 rfl (by decide) sh_69 (by decide) rfl (zb_zt 136) (by decide) (fun q => (far_le (N2 := 69) (by decide) h0) 69 q (by decide) (by decide)) rfl rfl rfl rfl ?_
  refine g_putF0 (z' := (zt 138)) zt_138 dX6_init_33 fl_X6_19 sh_65 (by rw [zn_zt_137]; decide) (fun _ _ _ => rfl) (narR rfl) rfl rfl ?_
  exact g_retv dX6_init_36 rfl ⟨rfl, rfl, rfl⟩
set_option maxRecDepth 4000 in
theorem k_X4_init_70 {l : Launch} {D : Nat} {h : HI} (h0 : ∀ a q, 71 ≤ a → a < 1000000 → h a q = 0) : Ret l (D + 1) 4 31 mX4_init (zt 140) [aP 70] h (fun v h' z' => v = none ∧ h' = h ∧ z' = (zt 148)) := by
  refine Ret.of 0 pn_X4 [aP 70] rfl rfl ?_
  refine g_aload_n dX4_init_0 rfl ?_
  refine g_obj dX4_init_1 ob_X4_1 (Nat.le_of_ble_eq_true rfl) ?_
  refine g_aload_n dX4_init_4 rfl ?_
  refine g_bipush dX4_init_5 rfl ?_
  refine g_newarr0 (N := 9) (n := 71) (z' := (zt 141)) (mc' := 3) (ms' := 22) zn_zt_140 zt_141 dX4_init_7 ac_0 rfl (by decide) sh_71 (by decide) rfl (zb_zt 140) (by decide) (fun q => (far_le (N2 := 71) (by decide) h0) 71 q (by decide) (by decide)) rfl rfl rfl rfl ?_
  refine g_putF0 (z' := (zt 142)) zt_142 dX4_init_9 fl_X4_9 sh_70 (by rw [zn_zt_141]; decide) (fun _ _ _ => rfl) (narR rfl) rfl rfl ?_
  refine g_aload_n dX4_init_12 rfl ?_
  refine g_bipush dX4_init_13 rfl ?_
  refine g_newarr0 (N := 9) (n := 72) (z' := (zt 143)) (mc' := 2) (ms' := 13) zn_zt_142 zt_143 dX4_init_15 ac_0 rfl (by decide) sh_72 (by decide) rfl (zb_zt 142) (by decide) (fun q => (far_le (N2 := 72) (by decide) h0) 72 q (by decide) (by decide)) rfl rfl rfl rfl ?_
  refine g_putF0 (z' := (zt 144)) zt_144 dX4_init_17 fl_X4_13 sh_70 (by rw [zn_zt_143]; decide) (fun _ _ _ => rfl) (narR rfl) rfl rfl ?_
  refine g_aload_n dX4_init_20 rfl ?_
  refine g_bipush dX4_init_21 rfl ?_
  refine g_newarr0 (N := 9) (n := 73) (z' := (zt 145)) (mc' := 1) (ms' := 4) zn_zt_144 zt_145 dX4_init_23 ac_0 rfl (by decide) sh_73 (by decide) rfl (zb_zt 144) (by decide) (fun q => (far_le (N2 := 73) (by decide) h0) 73 q (by decide) (by decide)) rfl rfl rfl rfl ?_
  refine g_putF0 (z' := (zt 146)) zt_146 dX4_init_25 fl_X4_16 sh_70 (by rw [zn_zt_145]; decide) (fun _ _ _ => rfl) (narR rfl) rfl rfl ?_
  refine g_aload_n dX4_init_28 rfl ?_
  refine g_iconst dX4_init_29 ?_
  refine g_newarr0 (N := 4) (n := 74) (z' := (zt 147)) (mc' := 0) (ms' := 0) zn_zt_146 zt_147 dX4_init_30 ac_0 rfl (by decide) sh_74 (by decide) rfl (zb_zt 146) (by decide) (fun q => (far_le (N2 := 74) (by decide) h0) 74 q (by decide) (by decide)) rfl rfl rfl rfl ?_
  refine g_putF0 (z' := (zt 148)) zt_148 dX4_init_32 fl_X4_19 sh_70 (by rw [zn_zt_147]; decide) (fun _ _ _ => rfl) (narR rfl) rfl rfl ?_
  exact g_retv dX4_init_35 rfl ⟨rfl, rfl, rfl⟩
set_option maxRecDepth 4000 in
theorem k_X10_init_75 {l : Launch} {D : Nat} {h : HI} (h0 : ∀ a q, 76 ≤ a → a < 1000000 → h a q = 0) : Ret l (D + 1) 7 240 mX10_init (zt 150) [aP 75] h (fun v h' z' => v = none ∧ h' = h ∧ z' = (zt 164)) := by
  refine Ret.of 0 pn_X10 [aP 75] rfl rfl ?_
  refine g_aload_n dX10_init_0 rfl ?_
  refine g_obj dX10_init_1 ob_X10_3 (Nat.le_of_ble_eq_true rfl) ?_
  refine g_aload_n dX10_init_4 rfl ?_
  refine g_bipush dX10_init_5 rfl ?_
  refine g_newarr0 (N := 12) (n := 76) (z' := (zt 151)) (mc' := 6) (ms' := 228) zn_zt_150 zt_151 dX10_init_7 ac_0 rfl (by decide) sh_76 (by decide) rfl (zb_zt 150) (by decide) (fun q => (far_le (N2 := 76) (by decide) h0) 76 q (by decide) (by decide)) rfl rfl rfl rfl ?_
  refine g_putF0 (z' := (zt 152)) zt_152 dX10_init_9 fl_X10_11 sh_75 (by rw [zn_zt_151]; decide) (fun _ _ _ => rfl) (narR rfl) rfl rfl ?_
  refine g_aload_n dX10_init_12 rfl ?_
  refine g_bipush dX10_init_13 rfl ?_
  refine g_newarr0 (N := 12) (n := 77) (z' := (zt 153)) (mc' := 5) (ms' := 216) zn_zt_152 zt_153 dX10_init_15 ac_0 rfl (by decide) sh_77 (by decide) rfl (zb_zt 152) (by decide) (fun q => (far_le (N2 := 77) (by decide) h0) 77 q (by decide) (by decide)) rfl rfl rfl rfl ?_
  refine g_putF0 (z' := (zt 154)) zt_154 dX10_init_17 fl_X10_15 sh_75 (by rw [zn_zt_153]; decide) (fun _ _ _ => rfl) (narR rfl) rfl rfl ?_
  refine g_aload_n dX10_init_20 rfl ?_
  refine g_bipush dX10_init_21 rfl ?_
  refine g_newarr0 (N := 12) (n := 78) (z' := (zt 155)) (mc' := 4) (ms' := 204) zn_zt_154 zt_155 dX10_init_23 ac_0 rfl (by decide) sh_78 (by decide) rfl (zb_zt 154) (by decide) (fun q => (far_le (N2 := 78) (by decide) h0) 78 q (by decide) (by decide)) rfl rfl rfl rfl ?_
  refine g_putF0 (z' := (zt 156)) zt_156 dX10_init_25 fl_X10_18 sh_75 (by rw [zn_zt_155]; decide) (fun _ _ _ => rfl) (narR rfl) rfl rfl ?_
  refine g_aload_n dX10_init_28 rfl ?_
  refine g_bipush dX10_init_29 rfl ?_
  refine g_newarr0 (N := 64) (n := 79) (z' := (zt 157)) (mc' := 3) (ms' := 140) zn_zt_156 zt_157 dX10_init_31 ac_0 rfl (by decide) sh_79 (by decide) rfl (zb_zt 156) (by decide) (fun q => (far_le (N2 := 79) (by decide) h0) 79 q (by decide) (by decide)) rfl rfl rfl rfl ?_
  refine g_putF0 (z' := (zt 158)) zt_158 dX10_init_33 fl_X10_21 sh_75 (by rw [zn_zt_157]; decide) (fun _ _ _ => rfl) (narR rfl) rfl rfl ?_
  refine g_aload_n dX10_init_36 rfl ?_
  refine g_bipush dX10_init_37 rfl ?_
  refine g_newarr0 (N := 64) (n := 80) (z' := (zt 159)) (mc' := 2) (ms' := 76) zn_zt_158 zt_159 dX10_init_39 ac_0 rfl (by decide) sh_80 (by decide) rfl (zb_zt 158) (by decide) (fun q => (far_le (N2 := 80) (by decide) h0) 80 q (by decide) (by decide)) rfl rfl rfl rfl ?_
  refine g_putF0 (z' := (zt 160)) zt_160 dX10_init_41 fl_X10_24 sh_75 (by rw [zn_zt_159]; decide) (fun _ _ _ => rfl) (narR rfl) rfl rfl ?_
  refine g_aload_n dX10_init_44 rfl ?_
  refine g_bipush dX10_init_45 rfl ?_
  refine g_newarr0 (N := 64) (n := 81) (z' := (zt 161)) (mc' := 1) (ms' := 12) zn_zt_160 zt_161 dX10_init_47 ac_0 rfl (by decide) sh_81 (by decide) rfl (zb_zt 160) (by decide) (fun q => (far_le (N2 := 81) (by decide) h0) 81 q (by decide) (by decide)) rfl rfl rfl rfl ?_
  refine g_putF0 (z' := (zt 162)) zt_162 dX10_init_49 fl_X10_27 sh_75 (by rw [zn_zt_161]; decide) (fun _ _ _ => rfl) (narR rfl) rfl rfl ?_
  refine g_aload_n dX10_init_52 rfl ?_
  refine g_bipush dX10_init_53 rfl ?_
  refine g_newarr0 (N := 12) (n := 82) (z' := (zt 163)) (mc' := 0) (ms' := 0) zn_zt_162 zt_163 dX10_init_55 ac_0 rfl (by decide) sh_82 (by decide) rfl (zb_zt 162) (by decide) (fun q => (far_le (N2 := 82) (by decide) h0) 82 q (by decide) (by decide)) rfl rfl rfl rfl ?_
  refine g_putF0 (z' := (zt 164)) zt_164 dX10_init_57 fl_X10_30 sh_75 (by rw [zn_zt_163]; decide) (fun _ _ _ => rfl) (narR rfl) rfl rfl ?_
  exact g_retv dX10_init_60 rfl ⟨rfl, rfl, rfl⟩
set_option maxRecDepth 4000 in
theorem k_X10_init_83 {l : Launch} {D : Nat} {h : HI} (h0 : ∀ a q, 84 ≤ a → a < 1000000 → h a q = 0) : Ret l (D + 1) 7 240 mX10_init (zt 166) [aP 83] h (fun v h' z' => v = none ∧ h' = h ∧ z' = (zt 180)) := by
  refine Ret.of 0 pn_X10 [aP 83] rfl rfl ?_
  refine g_aload_n dX10_init_0 rfl ?_
  refine g_obj dX10_init_1 ob_X10_3 (Nat.le_of_ble_eq_true rfl) ?_
  refine g_aload_n dX10_init_4 rfl ?_
  refine g_bipush dX10_init_5 rfl ?_
  refine g_newarr0 (N := 12) (n := 84) (z' := (zt 167)) (mc' := 6) (ms' := 228) zn_zt_166 zt_167 dX10_init_7 ac_0 rfl (by decide) sh_84 (by decide) rfl (zb_zt 166) (by decide) (fun q => (far_le (N2 := 84) (by decide) h0) 84 q (by decide) (by decide)) rfl rfl rfl rfl ?_
  refine g_putF0 (z' := (zt 168)) zt_168 dX10_init_9 fl_X10_11 sh_83 (by rw [zn_zt_167]; decide) (fun _ _ _ => rfl) (narR rfl) rfl rfl ?_
  refine g_aload_n dX10_init_12 rfl ?_
  refine g_bipush dX10_init_13 rfl ?_
  refine g_newarr0 (N := 12) (n := 85) (z' := (zt 169)) (mc' := 5) (ms' := 216) zn_zt_168 zt_169 dX10_init_15 ac_0 rfl (by decide) sh_85 (by decide) rfl (zb_zt 168) (by decide) (fun q => (far_le (N2 := 85) (by decide) h0) 85 q (by decide) (by decide)) rfl rfl rfl rfl ?_
  refine g_putF0 (z' := (zt 170)) zt_170 dX10_init_17 fl_X10_15 sh_83 (by rw [zn_zt_169]; decide) (fun _ _ _ => rfl) (narR rfl) rfl rfl ?_
  refine g_aload_n dX10_init_20 rfl ?_
  refine g_bipush dX10_init_21 rfl ?_
  refine g_newarr0 (N := 12) (n := 86) (z' := (zt 171)) (mc' := 4) (ms' := 204) zn_zt_170 zt_171 dX10_init_23 ac_0 rfl (by decide) sh_86 (by decide) rfl (zb_zt 170) (by decide) (fun q => (far_le (N2 := 86) (by decide) h0) 86 q (by decide) (by decide)) rfl rfl rfl rfl ?_
  refine g_putF0 (z' := (zt 172)) zt_172 dX10_init_25 fl_X10_18 sh_83 (by rw [zn_zt_171]; decide) (fun _ _ _ => rfl) (narR rfl) rfl rfl ?_
  refine g_aload_n dX10_init_28 rfl ?_
  refine g_bipush dX10_init_29 rfl ?_
  refine g_newarr0 (N := 64) (n := 87) (z' := (zt 173)) (mc' := 3) (ms' := 140) zn_zt_172 zt_173 dX10_init_31 ac_0 rfl (by decide) sh_87 (by decide) rfl (zb_zt 172) (by decide) (fun q => (far_le (N2 := 87) (by decide) h0) 87 q (by decide) (by decide)) rfl rfl rfl rfl ?_
  refine g_putF0 (z' := (zt 174)) zt_174 dX10_init_33 fl_X10_21 sh_83 (by rw [zn_zt_173]; decide) (fun _ _ _ => rfl) (narR rfl) rfl rfl ?_
  refine g_aload_n dX10_init_36 rfl ?_
  refine g_bipush dX10_init_37 rfl ?_
  refine g_newarr0 (N := 64) (n := 88) (z' := (zt 175)) (mc' := 2) (ms' := 76) zn_zt_174 zt_175 dX10_init_39 ac_0 rfl (by decide) sh_88 (by decide) rfl (zb_zt 174) (by decide) (fun q => (far_le (N2 := 88) (by decide) h0) 88 q (by decide) (by decide)) rfl rfl rfl rfl ?_
  refine g_putF0 (z' := (zt 176)) zt_176 dX10_init_41 fl_X10_24 sh_83 (by rw [zn_zt_175]; decide) (fun _ _ _ => rfl) (narR rfl) rfl rfl ?_
  refine g_aload_n dX10_init_44 rfl ?_
  refine g_bipush dX10_init_45 rfl ?_
  refine g_newarr0 (N := 64) (n := 89) (z' := (zt 177)) (mc' := 1) (ms' := 12) zn_zt_176 zt_177 dX10_init_47 ac_0 rfl (by decide) sh_89 (by decide) rfl (zb_zt 176) (by decide) (fun q => (far_le (N2 := 89) (by decide) h0) 89 q (by decide) (by decide)) rfl rfl rfl rfl ?_
  refine g_putF0 (z' := (zt 178)) zt_178 dX10_init_49 fl_X10_27 sh_83 (by rw [zn_zt_177]; decide) (fun _ _ _ => rfl) (narR rfl) rfl rfl ?_
  refine g_aload_n dX10_init_52 rfl ?_
  refine g_bipush dX10_init_53 rfl ?_
  refine g_newarr0 (N := 12) (n := 90) (z' := (zt 179)) (mc' := 0) (ms' := 0) zn_zt_178 zt_179 dX10_init_55 ac_0 rfl (by decide) sh_90 (by decide) rfl (zb_zt 178) (by decide) (fun q => (far_le (N2 := 90) (by decide) h0) 90 q (by decide) (by decide)) rfl rfl rfl rfl ?_
  refine g_putF0 (z' := (zt 180)) zt_180 dX10_init_57 fl_X10_30 sh_83 (by rw [zn_zt_179]; decide) (fun _ _ _ => rfl) (narR rfl) rfl rfl ?_
  exact g_retv dX10_init_60 rfl ⟨rfl, rfl, rfl⟩
set_option maxRecDepth 4000 in
theorem k_X9_init_91 {l : Launch} {D : Nat} {h : HI} (h0 : ∀ a q, 92 ≤ a → a < 1000000 → h a q = 0) : Ret l (D + 1) 5 1712 mX9_init (zt 182) [aP 91] h (fun v h' z' => v = none ∧ h' = h ∧ z' = (zt 192)) := by
  refine Ret.of 0 pn_X9 [aP 91] rfl rfl ?_
  refine g_aload_n dX9_init_0 rfl ?_
  refine g_obj dX9_init_1 ob_X9_3 (Nat.le_of_ble_eq_true rfl) ?_
  refine g_aload_n dX9_init_4 rfl ?_
  refine g_bipush dX9_init_5 rfl ?_
  refine g_newarr0 (N := 12) (n := 92) (z' := (zt 183)) (mc' := 4) (ms' := 1700) zn_zt_182 zt_183 dX9_init_7 ac_0 rfl (by decide) sh_92 (by decide) rfl (zb_zt 182) (by decide) (fun q => (far_le (N2 := 92) (by decide) h0) 92 q (by decide) (by decide)) rfl rfl rfl rfl ?_
  refine g_putF0 (z' := (zt 184)) zt_184 dX9_init_9 fl_X9_11 sh_91 (by rw [zn_zt_183]; decide) (fun _ _ _ => rfl) (narR rfl) rfl rfl ?_
  refine g_aload_n dX9_init_12 rfl ?_
  refine g_bipush dX9_init_13 rfl ?_
  refine g_newarr0 (N := 12) (n := 93) (z' := (zt 185)) (mc' := 3) (ms' := 1688) zn_zt_184 zt_185 dX9_init_15 ac_0 rfl (by decide) sh_93 (by decide) rfl (zb_zt 184) (by decide) (fun q => (far_le (N2 := 93) (by decide) h0) 93 q (by decide) (by decide)) rfl rfl rfl rfl ?_
  refine g_putF0 (z' := (zt 186)) zt_186 dX9_init_17 fl_X9_17 sh_91 (by rw [zn_zt_185]; decide) (fun _ _ _ => rfl) (narR rfl) rfl rfl ?_
  refine g_aload_n dX9_init_20 rfl ?_
  refine g_sipush dX9_init_21 rfl ?_
  refine g_newarr0 (N := 780) (n := 94) (z' := (zt 187)) (mc' := 2) (ms' := 908) zn_zt_186 zt_187 dX9_init_24 ac_0 rfl (by decide) sh_94 (by decide) rfl (zb_zt 186) (by decide) (fun q => (far_le (N2 := 94) (by decide) h0) 94 q (by decide) (by decide)) rfl rfl rfl rfl ?_
  refine g_putF0 (z' := (zt 188)) zt_188 dX9_init_26 fl_X9_20 sh_91 (by rw [zn_zt_187]; decide) (fun _ _ _ => rfl) (narR rfl) rfl rfl ?_
  refine g_aload_n dX9_init_29 rfl ?_
  refine g_sipush dX9_init_30 rfl ?_
  refine g_newarr0 (N := 780) (n := 95) (z' := (zt 189)) (mc' := 1) (ms' := 128) zn_zt_188 zt_189 dX9_init_33 ac_0 rfl (by decide) sh_95 (by decide) rfl (zb_zt 188) (by decide) (fun q => (far_le (N2 := 95) (by decide) h0) 95 q (by decide) (by decide)) rfl rfl rfl rfl ?_
  refine g_putF0 (z' := (zt 190)) zt_190 dX9_init_35 fl_X9_23 sh_91 (by rw [zn_zt_189]; decide) (fun _ _ _ => rfl) (narR rfl) rfl rfl ?_
  refine g_aload_n dX9_init_38 rfl ?_
  refine g_sipush dX9_init_39 rfl ?_
  refine g_newarr0 (N := 128) (n := 96) (z' := (zt 191)) (mc' := 0) (ms' := 0) zn_zt_190 zt_191 dX9_init_42 ac_0 rfl (by decide) sh_96 (by decide) rfl (zb_zt 190) (by decide) (fun q => (far_le (N2 := 96) (by decide) h0) 96 q (by decide) (by decide)) rfl rfl rfl rfl ?_
  refine g_putF0 (z' := (zt 192)) zt_192 dX9_init_44 fl_X9_26 sh_91 (by rw [zn_zt_191]; decide) (fun _ _ _ => rfl) (narR rfl) rfl rfl ?_
  exact g_retv dX9_init_47 rfl ⟨rfl, rfl, rfl⟩
set_option maxRecDepth 4000 in
theorem k_X11_init_0 {l : Launch} {D : Nat} {h : HI} (h0 : ∀ a q, 1 ≤ a → a < 1000000 → h a q = 0) : Ret l (D + 3) 96 6635 mX11_init (zt 1) [aP 0] h (fun v h' z' => v = none ∧ h' = (hu (hu (hu (hu (hlu (hlu (hu h 1 7 (-1)) 7) 37) 40 0 1) 0 10 (-1)) 0 11 (-1)) 0 12 (-1)) ∧ z' = (zt 193)) := by
  refine Ret.of 0 pn_X11 [aP 0] rfl rfl ?_
  refine g_aload_n dX11_init_0 rfl ?_
  refine g_obj dX11_init_1 ob_X11_1 (Nat.le_of_ble_eq_true rfl) ?_
  refine g_aload_n dX11_init_4 rfl ?_
  refine g_new0 (n := 1) (z' := (zt 2)) (mc' := 95) (ms' := 6625) zn_zt_1 zt_2 dX11_init_5 nw_X11_7 sh_1 (zb_zt 1) (by decide) (fun q => (far_le (N2 := 1) (by decide) h0) 1 q (by decide) (by decide)) rfl rfl rfl rfl ?_
  refine g_dup dX11_init_8 rfl ?_
  refine g_callIN (n := 0) (As := []) (st := [aP 1, aP 0]) (mc' := 1) (ms' := 540) (mcR := 94) (msR := 6085) dX11_init_9 ml_X11_9 rfl rfl (Nat.le_of_ble_eq_true rfl) rfl rfl rfl rfl (Ret.mono (k_X7_init_1 (far_le (N2 := 2) (by decide) h0)) (fun v h' z' q => ?_))
  obtain ⟨rfl, rfl, rfl⟩ := q
  refine ⟨rfl, ?_⟩
  refine g_putF0 (z' := (zt 5)) zt_5 dX11_init_12 fl_X11_10 sh_0 (by rw [zn_zt_4]; decide) (fun _ _ _ => rfl) (narR rfl) rfl rfl ?_
  refine g_aload_n dX11_init_15 rfl ?_
  refine g_new0 (n := 3) (z' := (zt 6)) (mc' := 93) (ms' := 6068) zn_zt_5 zt_6 dX11_init_16 nw_X11_16 sh_3 (zb_zt 5) (by decide) (fun q => (hu_far (by decide) (far_le (N2 := 3) (by decide) h0)) 3 q (by decide) (by decide)) rfl rfl rfl rfl ?_
  refine g_dup dX11_init_19 rfl ?_
  refine g_callIN (n := 0) (As := []) (st := [aP 3, aP 0]) (mc' := 29) (ms' := 1967) (mcR := 64) (msR := 4101) dX11_init_20 ml_X11_18 rfl rfl (Nat.le_of_ble_eq_true rfl) rfl rfl rfl rfl (Ret.mono (k_X5_init_3 (hu_far (by decide) (far_le (N2 := 4) (by decide) h0))) (fun v h' z' q => ?_))
  obtain ⟨rfl, rfl, rfl⟩ := q
  refine ⟨rfl, ?_⟩
  refine g_putF0 (z' := (zt 65)) zt_65 dX11_init_23 fl_X11_19 sh_0 (by rw [zn_zt_64]; decide) (fun _ _ _ => rfl) (narR rfl) rfl rfl ?_
  refine g_aload_n dX11_init_26 rfl ?_
  refine g_iconst dX11_init_27 ?_
  refine g_anew0 (N := 2) (n := 33) (z' := (zt 66)) (mc' := 63) (ms' := 4099) zn_zt_65 zt_66 dX11_init_28 cl_X11_16 ao_Stock sh_33 (by decide) rfl (zb_zt 65) (by decide) (fun q => (hlu_far (by decide) (hu_far (by decide) (far_le (N2 := 33) (by decide) h0))) 33 q (by decide) (by decide)) rfl rfl rfl rfl ?_
  refine g_putF0 (z' := (zt 67)) zt_67 dX11_init_31 fl_X11_23 sh_0 (by rw [zn_zt_66]; decide) (fun _ _ _ => rfl) (narR rfl) rfl rfl ?_
  refine g_aload_n dX11_init_34 rfl ?_
  refine g_new0 (n := 34) (z' := (zt 68)) (mc' := 62) (ms' := 4092) zn_zt_67 zt_68 dX11_init_35 nw_X11_27 sh_34 (zb_zt 67) (by decide) (fun q => (hlu_far (by decide) (hu_far (by decide) (far_le (N2 := 34) (by decide) h0))) 34 q (by decide) (by decide)) rfl rfl rfl rfl ?_
  refine g_dup dX11_init_38 rfl ?_
  refine g_callIN (n := 0) (As := []) (st := [aP 34, aP 0]) (mc' := 3) (ms' := 23) (mcR := 59) (msR := 4069) dX11_init_39 ml_X11_29 rfl rfl (Nat.le_of_ble_eq_true rfl) rfl rfl rfl rfl (Ret.mono (k_X0_init_34 (hlu_far (by decide) (hu_far (by decide) (far_le (N2 := 35) (by decide) h0)))) (fun v h' z' q => ?_))
  obtain ⟨rfl, rfl, rfl⟩ := q
  refine ⟨rfl, ?_⟩
  refine g_putF0 (z' := (zt 75)) zt_75 dX11_init_42 fl_X11_30 sh_0 (by rw [zn_zt_74]; decide) (fun _ _ _ => rfl) (narR rfl) rfl rfl ?_
  refine g_aload_n dX11_init_45 rfl ?_
  refine g_new0 (n := 38) (z' := (zt 76)) (mc' := 58) (ms' := 4066) zn_zt_75 zt_76 dX11_init_46 nw_X11_34 sh_38 (zb_zt 75) (by decide) (fun q => (hlu_far (by decide) (hlu_far (by decide) (hu_far (by decide) (far_le (N2 := 38) (by decide) h0)))) 38 q (by decide) (by decide)) rfl rfl rfl rfl ?_
  refine g_dup dX11_init_49 rfl ?_
  refine g_callIN (n := 0) (As := []) (st := [aP 38, aP 0]) (mc' := 1) (ms' := 40) (mcR := 57) (msR := 4026) dX11_init_50 ml_X11_36 rfl rfl (Nat.le_of_ble_eq_true rfl) rfl rfl rfl rfl (Ret.mono (k_X3_init_38 (hlu_far (by decide) (hlu_far (by decide) (hu_far (by decide) (far_le (N2 := 39) (by decide) h0))))) (fun v h' z' q => ?_))
  obtain ⟨rfl, rfl, rfl⟩ := q
  refine ⟨rfl, ?_⟩
  refine g_putF0 (z' := (zt 79)) zt_79 dX11_init_53 fl_X11_37 sh_0 (by rw [zn_zt_78]; decide) (fun _ _ _ => rfl) (narR rfl) rfl rfl ?_
  refine g_aload_n dX11_init_56 rfl ?_
  refine g_new0 (n := 40) (z' := (zt 80)) (mc' := 56) (ms' := 4015) zn_zt_79 zt_80 dX11_init_57 nw_X11_41 sh_40 (zb_zt 79) (by decide) (fun q => (hlu_far (by decide) (hlu_far (by decide) (hu_far (by decide) (far_le (N2 := 40) (by decide) h0)))) 40 q (by decide) (by decide)) rfl rfl rfl rfl ?_
  refine g_dup dX11_init_60 rfl ?_
  refine g_callIN (n := 0) (As := []) (st := [aP 40, aP 0]) (mc' := 10) (ms' := 738) (mcR := 46) (msR := 3277) dX11_init_61 ml_X11_43 rfl rfl (Nat.le_of_ble_eq_true rfl) rfl rfl rfl rfl (Ret.mono (k_X8_init_40 (hlu_far (by decide) (hlu_far (by decide) (hu_far (by decide) (far_le (N2 := 41) (by decide) h0))))) (fun v h' z' q => ?_))
  obtain ⟨rfl, rfl, rfl⟩ := q
  refine ⟨rfl, ?_⟩
  refine g_putF0 (z' := (zt 101)) zt_101 dX11_init_64 fl_X11_44 sh_0 (by rw [zn_zt_100]; decide) (fun _ _ _ => rfl) (narR rfl) rfl rfl ?_
  refine g_aload_n dX11_init_67 rfl ?_
  refine g_bipush dX11_init_68 rfl ?_
  refine g_newarr0 (N := 60) (n := 51) (z' := (zt 102)) (mc' := 45) (ms' := 3217) zn_zt_101 zt_102 dX11_init_70 ac_0 rfl (by decide) sh_51 (by decide) rfl (zb_zt 101) (by decide) (fun q => (hu_far (by decide) (hlu_far (by decide) (hlu_far (by decide) (hu_far (by decide) (far_le (N2 := 51) (by decide) h0))))) 51 q (by decide) (by decide)) rfl rfl rfl rfl ?_
  refine g_putF0 (z' := (zt 103)) zt_103 dX11_init_72 fl_X11_48 sh_0 (by rw [zn_zt_102]; decide) (fun _ _ _ => rfl) (narR rfl) rfl rfl ?_
  refine g_aload_n dX11_init_75 rfl ?_
  refine g_new0 (n := 52) (z' := (zt 104)) (mc' := 44) (ms' := 3199) zn_zt_103 zt_104 dX11_init_76 nw_X11_52 sh_52 (zb_zt 103) (by decide) (fun q => (hu_far (by decide) (hlu_far (by decide) (hlu_far (by decide) (hu_far (by decide) (far_le (N2 := 52) (by decide) h0))))) 52 q (by decide) (by decide)) rfl rfl rfl rfl ?_
  refine g_dup dX11_init_79 rfl ?_
  refine g_callIN (n := 0) (As := []) (st := [aP 52, aP 0]) (mc' := 12) (ms' := 772) (mcR := 32) (msR := 2427) dX11_init_80 ml_X11_54 rfl rfl (Nat.le_of_ble_eq_true rfl) rfl rfl rfl rfl (Ret.mono (k_X2_init_52 (hu_far (by decide) (hlu_far (by decide) (hlu_far (by decide) (hu_far (by decide) (far_le (N2 := 53) (by decide) h0)))))) (fun v h' z' q => ?_))
  obtain ⟨rfl, rfl, rfl⟩ := q
  refine ⟨rfl, ?_⟩
  refine g_putF0 (z' := (zt 129)) zt_129 dX11_init_83 fl_X11_55 sh_0 (by rw [zn_zt_128]; decide) (fun _ _ _ => rfl) (narR rfl) rfl rfl ?_
  refine g_aload_n dX11_init_86 rfl ?_
  refine g_new0 (n := 65) (z' := (zt 130)) (mc' := 31) (ms' := 2417) zn_zt_129 zt_130 dX11_init_87 nw_X11_59 sh_65 (zb_zt 129) (by decide) (fun q => (hu_far (by decide) (hlu_far (by decide) (hlu_far (by decide) (hu_far (by decide) (far_le (N2 := 65) (by decide) h0))))) 65 q (by decide) (by decide)) rfl rfl rfl rfl ?_
  refine g_dup dX11_init_90 rfl ?_
  refine g_callIN (n := 0) (As := []) (st := [aP 65, aP 0]) (mc' := 4) (ms' := 160) (mcR := 27) (msR := 2257) dX11_init_91 ml_X11_61 rfl rfl (Nat.le_of_ble_eq_true rfl) rfl rfl rfl rfl (Ret.mono (k_X6_init_65 (hu_far (by decide) (hlu_far (by decide) (hlu_far (by decide) (hu_far (by decide) (far_le (N2 := 66) (by decide) h0)))))) (fun v h' z' q => ?_))
  obtain ⟨rfl, rfl, rfl⟩ := q
  refine ⟨rfl, ?_⟩
  refine g_putF0 (z' := (zt 139)) zt_139 dX11_init_94 fl_X11_62 sh_0 (by rw [zn_zt_138]; decide) (fun _ _ _ => rfl) (narR rfl) rfl rfl ?_
  refine g_aload_n dX11_init_97 rfl ?_
  refine g_new0 (n := 70) (z' := (zt 140)) (mc' := 26) (ms' := 2249) zn_zt_139 zt_140 dX11_init_98 nw_X11_66 sh_70 (zb_zt 139) (by decide) (fun q => (hu_far (by decide) (hlu_far (by decide) (hlu_far (by decide) (hu_far (by decide) (far_le (N2 := 70) (by decide) h0))))) 70 q (by decide) (by decide)) rfl rfl rfl rfl ?_
  refine g_dup dX11_init_101 rfl ?_
  refine g_callIN (n := 0) (As := []) (st := [aP 70, aP 0]) (mc' := 4) (ms' := 31) (mcR := 22) (msR := 2218) dX11_init_102 ml_X11_68 rfl rfl (Nat.le_of_ble_eq_true rfl) rfl rfl rfl rfl (Ret.mono (k_X4_init_70 (hu_far (by decide) (hlu_far (by decide) (hlu_far (by decide) (hu_far (by decide) (far_le (N2 := 71) (by decide) h0)))))) (fun v h' z' q => ?_))
  obtain ⟨rfl, rfl, rfl⟩ := q
  refine ⟨rfl, ?_⟩
  refine g_putF0 (z' := (zt 149)) zt_149 dX11_init_105 fl_X11_69 sh_0 (by rw [zn_zt_148]; decide) (fun _ _ _ => rfl) (narR rfl) rfl rfl ?_
  refine g_aload_n dX11_init_108 rfl ?_
  refine g_iconst dX11_init_109 ?_
  refine g_putI (J := 10) dX11_init_110 fl_X11_73 sh_0 (by rw [zn_zt_149]; decide) rfl rfl ?_
  refine g_aload_n dX11_init_113 rfl ?_
  refine g_iconst dX11_init_114 ?_
  refine g_putI (J := 11) dX11_init_115 fl_X11_77 sh_0 (by rw [zn_zt_149]; decide) rfl rfl ?_
  refine g_aload_n dX11_init_118 rfl ?_
  refine g_iconst dX11_init_119 ?_
  refine g_putI (J := 12) dX11_init_120 fl_X11_80 sh_0 (by rw [zn_zt_149]; decide) rfl rfl ?_
  refine g_aload_n dX11_init_123 rfl ?_
  refine g_new0 (n := 75) (z' := (zt 150)) (mc' := 21) (ms' := 2208) zn_zt_149 zt_150 dX11_init_124 nw_X11_83 sh_75 (zb_zt 149) (by decide) (fun q => (hu_far (by decide) (hu_far (by decide) (hu_far (by decide) (hu_far (by decide) (hlu_far (by decide) (hlu_far (by decide) (hu_far (by decide) (far_le (N2 := 75) (by decide) h0)))))))) 75 q (by decide) (by decide)) rfl rfl rfl rfl ?_
  refine g_dup dX11_init_127 rfl ?_
  refine g_callIN (n := 0) (As := []) (st := [aP 75, aP 0]) (mc' := 7) (ms' := 240) (mcR := 14) (msR := 1968) dX11_init_128 ml_X11_85 rfl rfl (Nat.le_of_ble_eq_true rfl) rfl rfl rfl rfl (Ret.mono (k_X10_init_75 (hu_far (by decide) (hu_far (by decide) (hu_far (by decide) (hu_far (by decide) (hlu_far (by decide) (hlu_far (by decide) (hu_far (by decide) (far_le (N2 := 76) (by decide) h0))))))))) (fun v h' z' q => ?_))
  obtain ⟨rfl, rfl, rfl⟩ := q
  refine ⟨rfl, ?_⟩
  refine g_putR0 (z' := (zt 165)) zt_165 dX11_init_131 fl_X11_86 sh_0 (by rw [zn_zt_164]; decide) (fun _ _ _ => rfl) (narR rfl) ?_
  refine g_aload_n dX11_init_134 rfl ?_
  refine g_new0 (n := 83) (z' := (zt 166)) (mc' := 13) (ms' := 1958) zn_zt_165 zt_166 dX11_init_135 nw_X11_83 sh_83 (zb_zt 165) (by decide) (fun q => (hu_far (by decide) (hu_far (by decide) (hu_far (by decide) (hu_far (by decide) (hlu_far (by decide) (hlu_far (by decide) (hu_far (by decide) (far_le (N2 := 83) (by decide) h0)))))))) 83 q (by decide) (by decide)) rfl rfl rfl rfl ?_
  refine g_dup dX11_init_138 rfl ?_
  refine g_callIN (n := 0) (As := []) (st := [aP 83, aP 0]) (mc' := 7) (ms' := 240) (mcR := 6) (msR := 1718) dX11_init_139 ml_X11_85 rfl rfl (Nat.le_of_ble_eq_true rfl) rfl rfl rfl rfl (Ret.mono (k_X10_init_83 (hu_far (by decide) (hu_far (by decide) (hu_far (by decide) (hu_far (by decide) (hlu_far (by decide) (hlu_far (by decide) (hu_far (by decide) (far_le (N2 := 84) (by decide) h0))))))))) (fun v h' z' q => ?_))
  obtain ⟨rfl, rfl, rfl⟩ := q
  refine ⟨rfl, ?_⟩
  refine g_putR0 (z' := (zt 181)) zt_181 dX11_init_142 fl_X11_90 sh_0 (by rw [zn_zt_180]; decide) (fun _ _ _ => rfl) (narR rfl) ?_
  refine g_aload_n dX11_init_145 rfl ?_
  refine g_new0 (n := 91) (z' := (zt 182)) (mc' := 5) (ms' := 1712) zn_zt_181 zt_182 dX11_init_146 nw_X11_93 sh_91 (zb_zt 181) (by decide) (fun q => (hu_far (by decide) (hu_far (by decide) (hu_far (by decide) (hu_far (by decide) (hlu_far (by decide) (hlu_far (by decide) (hu_far (by decide) (far_le (N2 := 91) (by decide) h0)))))))) 91 q (by decide) (by decide)) rfl rfl rfl rfl ?_
  refine g_dup dX11_init_149 rfl ?_
  refine g_callIN (n := 0) (As := []) (st := [aP 91, aP 0]) (mc' := 5) (ms' := 1712) (mcR := 0) (msR := 0) dX11_init_150 ml_X11_95 rfl rfl (Nat.le_of_ble_eq_true rfl) rfl rfl rfl rfl (Ret.mono (k_X9_init_91 (hu_far (by decide) (hu_far (by decide) (hu_far (by decide) (hu_far (by decide) (hlu_far (by decide) (hlu_far (by decide) (hu_far (by decide) (far_le (N2 := 92) (by decide) h0))))))))) (fun v h' z' q => ?_))
  obtain ⟨rfl, rfl, rfl⟩ := q
  refine ⟨rfl, ?_⟩
  refine g_putF0 (z' := (zt 193)) zt_193 dX11_init_153 fl_X11_96 sh_0 (by rw [zn_zt_192]; decide) (fun _ _ _ => rfl) (narR rfl) rfl rfl ?_
  exact g_retv dX11_init_156 rfl ⟨rfl, rfl, rfl⟩
