theorem e_X0_hasBench {l : Launch} {D : Nat} {ζ : ZP} {h : HI} {Q : Int → HI → Prop} {x1 : Int} (hn : 144 ≤ ζ.2.2.2.2) (w : (rg x1) ∧ (if x1 < 0 then (Q 0 h) else ((rg (h 4 3)) ∧ (if (h 4 3) ≤ x1 then (Q 0 h) else (Q 1 h))))) : RtI l (D + 1) mX0_hasBench (zz ζ) [aP 4, aI x1] h Q := by
  refine RtI.of 0 pn_X0 [aP 4, aI x1] rfl rfl ?_
  refine g_iload_n dX0_hasBench_0 rfl ?_
  obtain ⟨o1, w⟩ := w
  refine g_if_lt (tgt := 16) dX0_hasBench_1 rfl o1 ?_
  refine ite_imp (fun w => ?_) (fun w => ?_) w
  · refine g_iconst dX0_hasBench_16 ?_
    exact g_retZ dX0_hasBench_17 rfl (Or.inl rfl) w
  · refine g_iload_n dX0_hasBench_4 rfl ?_
    refine g_aload_n dX0_hasBench_5 rfl ?_
    refine g_getI (J := 3) dX0_hasBench_6 fl_X0_29 sh_4 (al_4 hn) (fun _ _ _ => rfl) rfl ?_
    obtain ⟨o2, w⟩ := w
    refine g_cmp_ge (tgt := 16) dX0_hasBench_9 rfl o1 o2 ?_
    refine ite_imp (fun w => ?_) (fun w => ?_) w
    · refine g_iconst dX0_hasBench_16 ?_
      exact g_retZ dX0_hasBench_17 rfl (Or.inl rfl) w
    · refine g_iconst dX0_hasBench_12 ?_
      refine g_goto (tgt := 17) dX0_hasBench_13 rfl ?_
      exact g_retZ dX0_hasBench_17 rfl (Or.inr rfl) w
theorem e_X0_hasBox {l : Launch} {D : Nat} {ζ : ZP} {h : HI} {Q : Int → HI → Prop} {x1 : Int} (hn : 144 ≤ ζ.2.2.2.2) (w : (rg x1) ∧ (if x1 < 0 then (Q 0 h) else ((rg (h 4 4)) ∧ (if (h 4 4) ≤ x1 then (Q 0 h) else (Q 1 h))))) : RtI l (D + 1) mX0_hasBox (zz ζ) [aP 4, aI x1] h Q := by
  refine RtI.of 0 pn_X0 [aP 4, aI x1] rfl rfl ?_
  refine g_iload_n dX0_hasBox_0 rfl ?_
  obtain ⟨o1, w⟩ := w
  refine g_if_lt (tgt := 16) dX0_hasBox_1 rfl o1 ?_
  refine ite_imp (fun w => ?_) (fun w => ?_) w
  · refine g_iconst dX0_hasBox_16 ?_
    exact g_retZ dX0_hasBox_17 rfl (Or.inl rfl) w
  · refine g_iload_n dX0_hasBox_4 rfl ?_
    refine g_aload_n dX0_hasBox_5 rfl ?_
    refine g_getI (J := 4) dX0_hasBox_6 fl_X0_33 sh_4 (al_4 hn) (fun _ _ _ => rfl) rfl ?_
    obtain ⟨o2, w⟩ := w
    refine g_cmp_ge (tgt := 16) dX0_hasBox_9 rfl o1 o2 ?_
    refine ite_imp (fun w => ?_) (fun w => ?_) w
    · refine g_iconst dX0_hasBox_16 ?_
      exact g_retZ dX0_hasBox_17 rfl (Or.inl rfl) w
    · refine g_iconst dX0_hasBox_12 ?_
      refine g_goto (tgt := 17) dX0_hasBox_13 rfl ?_
      exact g_retZ dX0_hasBox_17 rfl (Or.inr rfl) w
theorem b_X0_boxNamed_2 {l : Launch} {D : Nat} {ζ : ZP} {h : HI} {Q : Int → HI → Prop} {x1 x2 : Int} (hn : 144 ≤ ζ.2.2.2.2) (w : (rg x2) ∧ (rg (h 4 4)) ∧ (if (h 4 4) ≤ x2 then (Q (-1) h) else ((0 ≤ x2 ∧ x2 < 8) ∧ (rg (h 6 x2)) ∧ (rg x1) ∧ (if ¬ (h 6 x2) = x1 then (G l (D + 1) 0 0 mX0_boxNamed (zz ζ) 2 [aP 4, aI x1, aI (x2 + 1)] [] h (qI (zz ζ) Q)) else (Q x2 h))))) : G l (D + 1) 0 0 mX0_boxNamed (zz ζ) 2 [aP 4, aI x1, aI x2] [] h (qI (zz ζ) Q) := by
  refine g_iload_n dX0_boxNamed_2 rfl ?_
  refine g_aload_n dX0_boxNamed_3 rfl ?_
  refine g_getI (J := 4) dX0_boxNamed_4 fl_X0_33 sh_4 (al_4 hn) (fun _ _ _ => rfl) rfl ?_
  obtain ⟨o1, w⟩ := w
  obtain ⟨o2, w⟩ := w
  refine g_cmp_ge (tgt := 28) dX0_boxNamed_7 rfl o1 o2 ?_
  refine ite_imp (fun w => ?_) (fun w => ?_) w
  · refine g_iconst dX0_boxNamed_28 ?_
    exact g_retI dX0_boxNamed_29 rfl w
  · refine g_aload_n dX0_boxNamed_10 rfl ?_
    refine g_getR dX0_boxNamed_11 fl_X0_15 sh_4 (al_4 hn) (fun _ _ _ => rfl) rf_4_1 ?_
    refine g_iload_n dX0_boxNamed_14 rfl ?_
    obtain ⟨o3, w⟩ := w
    refine g_iald dX0_boxNamed_15 sh_6 (al_6 hn) (Nat.le_of_ble_eq_true rfl) o3 ?_
    refine g_iload_n dX0_boxNamed_16 rfl ?_
    obtain ⟨o4, w⟩ := w
    obtain ⟨o5, w⟩ := w
    refine g_cmp_ne (tgt := 22) dX0_boxNamed_17 rfl o4 o5 ?_
    refine ite_imp (fun w => ?_) (fun w => ?_) w
    · refine g_iinc (ls' := [aP 4, aI x1, aI (x2 + 1)]) dX0_boxNamed_22 rfl (Nat.le_of_ble_eq_true rfl) rfl rfl ?_
      refine g_goto (tgt := 2) dX0_boxNamed_25 rfl ?_
      exact g_sub (ls' := [aP 4, aI x1, aI (x2 + 1)]) ⟨Or.inr rfl, Or.inr rfl, Or.inr rfl, trivial⟩ w
    · refine g_iload_n dX0_boxNamed_20 rfl ?_
      exact g_retI dX0_boxNamed_21 rfl w
theorem e_X0_boxNamed {l : Launch} {D : Nat} {ζ : ZP} {h : HI} {Q : Int → HI → Prop} {x1 : Int} (hn : 144 ≤ ζ.2.2.2.2) (w : G l (D + 1) 0 0 mX0_boxNamed (zz ζ) 2 [aP 4, aI x1, aI 0] [] h (qI (zz ζ) Q)) : RtI l (D + 1) mX0_boxNamed (zz ζ) [aP 4, aI x1] h Q := by
  refine RtI.of 1 pn_X0 [aP 4, aI x1, aU] rfl rfl ?_
  refine g_iconst dX0_boxNamed_0 ?_
  refine g_istore_n (ls' := [aP 4, aI x1, aI 0]) dX0_boxNamed_1 (Nat.le_of_ble_eq_true rfl) rfl rfl ?_
  exact g_sub (ls' := [aP 4, aI x1, aI 0]) ⟨Or.inr rfl, Or.inr rfl, Or.inr rfl, trivial⟩ w
theorem b_X0_boxNamed_d_2 {l : Launch} {D : Nat} {ζ : ZP} {h : HI} {Q : Int → HI → Prop} {x1 x2 : Int} (hn : 144 ≤ ζ.2.2.2.2) (w : (rg x2) ∧ (rg (h 34 4)) ∧ (if (h 34 4) ≤ x2 then (Q (-1) h) else ((0 ≤ x2 ∧ x2 < 8) ∧ (rg (h 36 x2)) ∧ (rg x1) ∧ (if ¬ (h 36 x2) = x1 then (G l (D + 1) 0 0 mX0_boxNamed (zz ζ) 2 [aP 34, aI x1, aI (x2 + 1)] [] h (qI (zz ζ) Q)) else (Q x2 h))))) : G l (D + 1) 0 0 mX0_boxNamed (zz ζ) 2 [aP 34, aI x1, aI x2] [] h (qI (zz ζ) Q) := by
  refine g_iload_n dX0_boxNamed_2 rfl ?_
  refine g_aload_n dX0_boxNamed_3 rfl ?_
  refine g_getI (J := 4) dX0_boxNamed_4 fl_X0_33 sh_34 (al_34 hn) (fun _ _ _ => rfl) rfl ?_
  obtain ⟨o1, w⟩ := w
  obtain ⟨o2, w⟩ := w
  refine g_cmp_ge (tgt := 28) dX0_boxNamed_7 rfl o1 o2 ?_
  refine ite_imp (fun w => ?_) (fun w => ?_) w
  · refine g_iconst dX0_boxNamed_28 ?_
    exact g_retI dX0_boxNamed_29 rfl w
  · refine g_aload_n dX0_boxNamed_10 rfl ?_
    refine g_getR dX0_boxNamed_11 fl_X0_15 sh_34 (al_34 hn) (fun _ _ _ => rfl) rf_34_1 ?_
    refine g_iload_n dX0_boxNamed_14 rfl ?_
    obtain ⟨o3, w⟩ := w
    refine g_iald dX0_boxNamed_15 sh_36 (al_36 hn) (Nat.le_of_ble_eq_true rfl) o3 ?_
    refine g_iload_n dX0_boxNamed_16 rfl ?_
    obtain ⟨o4, w⟩ := w
    obtain ⟨o5, w⟩ := w
    refine g_cmp_ne (tgt := 22) dX0_boxNamed_17 rfl o4 o5 ?_
    refine ite_imp (fun w => ?_) (fun w => ?_) w
    · refine g_iinc (ls' := [aP 34, aI x1, aI (x2 + 1)]) dX0_boxNamed_22 rfl (Nat.le_of_ble_eq_true rfl) rfl rfl ?_
      refine g_goto (tgt := 2) dX0_boxNamed_25 rfl ?_
      exact g_sub (ls' := [aP 34, aI x1, aI (x2 + 1)]) ⟨Or.inr rfl, Or.inr rfl, Or.inr rfl, trivial⟩ w
    · refine g_iload_n dX0_boxNamed_20 rfl ?_
      exact g_retI dX0_boxNamed_21 rfl w
theorem e_X0_boxNamed_d {l : Launch} {D : Nat} {ζ : ZP} {h : HI} {Q : Int → HI → Prop} {x1 : Int} (hn : 144 ≤ ζ.2.2.2.2) (w : G l (D + 1) 0 0 mX0_boxNamed (zz ζ) 2 [aP 34, aI x1, aI 0] [] h (qI (zz ζ) Q)) : RtI l (D + 1) mX0_boxNamed (zz ζ) [aP 34, aI x1] h Q := by
  refine RtI.of 1 pn_X0 [aP 34, aI x1, aU] rfl rfl ?_
  refine g_iconst dX0_boxNamed_0 ?_
  refine g_istore_n (ls' := [aP 34, aI x1, aI 0]) dX0_boxNamed_1 (Nat.le_of_ble_eq_true rfl) rfl rfl ?_
  exact g_sub (ls' := [aP 34, aI x1, aI 0]) ⟨Or.inr rfl, Or.inr rfl, Or.inr rfl, trivial⟩ w
theorem b_X0_isTold_2 {l : Launch} {D : Nat} {ζ : ZP} {h : HI} {Q : Int → HI → Prop} {x1 x2 : Int} (hn : 144 ≤ ζ.2.2.2.2) (w : (rg x2) ∧ (rg (h 34 3)) ∧ (if (h 34 3) ≤ x2 then (RtI l D mX0_boxNamed (zz ζ) [aP 34, aI x1] h (fun r1 h1 => (rg r1) ∧ (if r1 = (-1) then (Q 0 h1) else (Q 1 h1)))) else ((0 ≤ x2 ∧ x2 < 6) ∧ (rg (h 35 x2)) ∧ (rg x1) ∧ (if ¬ (h 35 x2) = x1 then (G l (D + 1) 0 0 mX0_isTold (zz ζ) 2 [aP 34, aI x1, aI (x2 + 1)] [] h (qI (zz ζ) Q)) else (Q 1 h))))) : G l (D + 1) 0 0 mX0_isTold (zz ζ) 2 [aP 34, aI x1, aI x2] [] h (qI (zz ζ) Q) := by
  refine g_iload_n dX0_isTold_2 rfl ?_
  refine g_aload_n dX0_isTold_3 rfl ?_
  refine g_getI (J := 3) dX0_isTold_4 fl_X0_29 sh_34 (al_34 hn) (fun _ _ _ => rfl) rfl ?_
  obtain ⟨o1, w⟩ := w
  obtain ⟨o2, w⟩ := w
  refine g_cmp_ge (tgt := 28) dX0_isTold_7 rfl o1 o2 ?_
  refine ite_imp (fun w => ?_) (fun w => ?_) w
  · refine g_aload_n dX0_isTold_28 rfl ?_
    refine g_iload_n dX0_isTold_29 rfl ?_
    refine g_callVI (n := 1) (As := [aI x1]) (st := []) dX0_isTold_30 ml_X0_36 sh_34 rfl (al_34 hn) rfl rfl (Nat.le_of_ble_eq_true rfl) (RtI.mono w (fun r1 h1 w => ?_))
    refine g_iconst dX0_isTold_33 ?_
    obtain ⟨o3, w⟩ := w
    refine g_cmp_eq (tgt := 41) dX0_isTold_34 rfl o3 (by decide) ?_
    refine ite_imp (fun w => ?_) (fun w => ?_) w
    · refine g_iconst dX0_isTold_41 ?_
      exact g_retZ dX0_isTold_42 rfl (Or.inl rfl) w
    · refine g_iconst dX0_isTold_37 ?_
      refine g_goto (tgt := 42) dX0_isTold_38 rfl ?_
      exact g_retZ dX0_isTold_42 rfl (Or.inr rfl) w
  · refine g_aload_n dX0_isTold_10 rfl ?_
    refine g_getR dX0_isTold_11 fl_X0_9 sh_34 (al_34 hn) (fun _ _ _ => rfl) rf_34_0 ?_
    refine g_iload_n dX0_isTold_14 rfl ?_
    obtain ⟨o4, w⟩ := w
    refine g_iald dX0_isTold_15 sh_35 (al_35 hn) (Nat.le_of_ble_eq_true rfl) o4 ?_
    refine g_iload_n dX0_isTold_16 rfl ?_
    obtain ⟨o5, w⟩ := w
    obtain ⟨o6, w⟩ := w
    refine g_cmp_ne (tgt := 22) dX0_isTold_17 rfl o5 o6 ?_
    refine ite_imp (fun w => ?_) (fun w => ?_) w
    · refine g_iinc (ls' := [aP 34, aI x1, aI (x2 + 1)]) dX0_isTold_22 rfl (Nat.le_of_ble_eq_true rfl) rfl rfl ?_
      refine g_goto (tgt := 2) dX0_isTold_25 rfl ?_
      exact g_sub (ls' := [aP 34, aI x1, aI (x2 + 1)]) ⟨Or.inr rfl, Or.inr rfl, Or.inr rfl, trivial⟩ w
    · refine g_iconst dX0_isTold_20 ?_
      exact g_retZ dX0_isTold_21 rfl (Or.inr rfl) w
theorem e_X0_isTold {l : Launch} {D : Nat} {ζ : ZP} {h : HI} {Q : Int → HI → Prop} {x1 : Int} (hn : 144 ≤ ζ.2.2.2.2) (w : G l (D + 1) 0 0 mX0_isTold (zz ζ) 2 [aP 34, aI x1, aI 0] [] h (qI (zz ζ) Q)) : RtI l (D + 1) mX0_isTold (zz ζ) [aP 34, aI x1] h Q := by
  refine RtI.of 1 pn_X0 [aP 34, aI x1, aU] rfl rfl ?_
  refine g_iconst dX0_isTold_0 ?_
  refine g_istore_n (ls' := [aP 34, aI x1, aI 0]) dX0_isTold_1 (Nat.le_of_ble_eq_true rfl) rfl rfl ?_
  exact g_sub (ls' := [aP 34, aI x1, aI 0]) ⟨Or.inr rfl, Or.inr rfl, Or.inr rfl, trivial⟩ w
theorem e_X0_copyFrom_r {l : Launch} {D : Nat} {ζ : ZP} {h : HI} {Q : HI → Prop} (hn : 144 ≤ ζ.2.2.2.2) (w : Q (hu (hu (hu (hcp (hcp (hcp h 35 0 5 0 6) 36 0 6 0 8) 37 0 7 0 9) 4 3 ((hcp (hcp (hcp h 35 0 5 0 6) 36 0 6 0 8) 37 0 7 0 9) 34 3)) 4 4 ((hcp (hcp (hcp h 35 0 5 0 6) 36 0 6 0 8) 37 0 7 0 9) 34 4)) 4 5 ((hcp (hcp (hcp h 35 0 5 0 6) 36 0 6 0 8) 37 0 7 0 9) 34 5))) : RtV l (D + 1) mX0_copyFrom (zz ζ) [aP 4, aP 34] h Q := by
  refine RtV.of 0 pn_X0 [aP 4, aP 34] rfl rfl ?_
  refine g_aload_n dX0_copyFrom_0 rfl ?_
  refine g_getR dX0_copyFrom_1 fl_X0_9 sh_34 (al_34 hn) (fun _ _ _ => rfl) rf_34_0 ?_
  refine g_iconst dX0_copyFrom_4 ?_
  refine g_aload_n dX0_copyFrom_5 rfl ?_
  refine g_getR dX0_copyFrom_6 fl_X0_9 sh_4 (al_4 hn) (fun _ _ _ => rfl) rf_4_0 ?_
  refine g_iconst dX0_copyFrom_9 ?_
  refine g_bipush dX0_copyFrom_10 rfl ?_
  refine g_copy dX0_copyFrom_12 cw_X0_40 (Nat.le_of_ble_eq_true rfl) sh_35 (al_35 hn) sh_5 (al_5 hn) (Nat.le_of_ble_eq_true rfl) (Nat.le_of_ble_eq_true rfl) (by decide) ?_
  refine g_aload_n dX0_copyFrom_15 rfl ?_
  refine g_getR dX0_copyFrom_16 fl_X0_15 sh_34 (al_34 hn) (fun _ _ _ => rfl) rf_34_1 ?_
  refine g_iconst dX0_copyFrom_19 ?_
  refine g_aload_n dX0_copyFrom_20 rfl ?_
  refine g_getR dX0_copyFrom_21 fl_X0_15 sh_4 (al_4 hn) (fun _ _ _ => rfl) rf_4_1 ?_
  refine g_iconst dX0_copyFrom_24 ?_
  refine g_bipush dX0_copyFrom_25 rfl ?_
  refine g_copy dX0_copyFrom_27 cw_X0_40 (Nat.le_of_ble_eq_true rfl) sh_36 (al_36 hn) sh_6 (al_6 hn) (Nat.le_of_ble_eq_true rfl) (Nat.le_of_ble_eq_true rfl) (by decide) ?_
  refine g_aload_n dX0_copyFrom_30 rfl ?_
  refine g_getR dX0_copyFrom_31 fl_X0_26 sh_34 (al_34 hn) (fun _ _ _ => rfl) rf_34_2 ?_
  refine g_iconst dX0_copyFrom_34 ?_
  refine g_aload_n dX0_copyFrom_35 rfl ?_
  refine g_getR dX0_copyFrom_36 fl_X0_26 sh_4 (al_4 hn) (fun _ _ _ => rfl) rf_4_2 ?_
  refine g_iconst dX0_copyFrom_39 ?_
  refine g_bipush dX0_copyFrom_40 rfl ?_
  refine g_copy dX0_copyFrom_42 cw_X0_40 (Nat.le_of_ble_eq_true rfl) sh_37 (al_37 hn) sh_7 (al_7 hn) (Nat.le_of_ble_eq_true rfl) (Nat.le_of_ble_eq_true rfl) (by decide) ?_
  refine g_aload_n dX0_copyFrom_45 rfl ?_
  refine g_aload_n dX0_copyFrom_46 rfl ?_
  refine g_getI (J := 3) dX0_copyFrom_47 fl_X0_29 sh_34 (al_34 hn) (fun _ _ _ => rfl) rfl ?_
  refine g_putI (J := 3) dX0_copyFrom_50 fl_X0_29 sh_4 (al_4 hn) rfl rfl ?_
  refine g_aload_n dX0_copyFrom_53 rfl ?_
  refine g_aload_n dX0_copyFrom_54 rfl ?_
  refine g_getI (J := 4) dX0_copyFrom_55 fl_X0_33 sh_34 (al_34 hn) (fun _ _ _ => rfl) rfl ?_
  refine g_putI (J := 4) dX0_copyFrom_58 fl_X0_33 sh_4 (al_4 hn) rfl rfl ?_
  refine g_aload_n dX0_copyFrom_61 rfl ?_
  refine g_aload_n dX0_copyFrom_62 rfl ?_
  refine g_getI (J := 5) dX0_copyFrom_63 fl_X0_46 sh_34 (al_34 hn) (fun _ _ _ => rfl) rfl ?_
  refine g_putI (J := 5) dX0_copyFrom_66 fl_X0_46 sh_4 (al_4 hn) rfl rfl ?_
  exact g_retV dX0_copyFrom_69 rfl w
theorem e_X0_copyFrom_in {l : Launch} {D : Nat} {ζ : ZP} {h : HI} {Q : HI → Prop} {u : Nat} (hn : 144 ≤ ζ.2.2.2.2) (hu0 : isU u) (hun : u + 30 ≤ ζ.2.2.2.2) (w : Q (hu (hu (hu (hcp (hcp (hcp h (u + 2) 0 5 0 6) (u + 3) 0 6 0 8) (u + 4) 0 7 0 9) 4 3 ((hcp (hcp (hcp h (u + 2) 0 5 0 6) (u + 3) 0 6 0 8) (u + 4) 0 7 0 9) (u + 1) 3)) 4 4 ((hu (hcp (hcp (hcp h (u + 2) 0 5 0 6) (u + 3) 0 6 0 8) (u + 4) 0 7 0 9) 4 3 ((hcp (hcp (hcp h (u + 2) 0 5 0 6) (u + 3) 0 6 0 8) (u + 4) 0 7 0 9) (u + 1) 3)) (u + 1) 4)) 4 5 ((hu (hu (hcp (hcp (hcp h (u + 2) 0 5 0 6) (u + 3) 0 6 0 8) (u + 4) 0 7 0 9) 4 3 ((hcp (hcp (hcp h (u + 2) 0 5 0 6) (u + 3) 0 6 0 8) (u + 4) 0 7 0 9) (u + 1) 3)) 4 4 ((hu (hcp (hcp (hcp h (u + 2) 0 5 0 6) (u + 3) 0 6 0 8) (u + 4) 0 7 0 9) 4 3 ((hcp (hcp (hcp h (u + 2) 0 5 0 6) (u + 3) 0 6 0 8) (u + 4) 0 7 0 9) (u + 1) 3)) (u + 1) 4)) (u + 1) 5))) : RtV l (D + 1) mX0_copyFrom (zz ζ) [aP 4, aP (u + 1)] h Q := by
  refine RtV.of 0 pn_X0 [aP 4, aP (u + 1)] rfl rfl ?_
  refine g_aload_n dX0_copyFrom_0 rfl ?_
  refine g_getR dX0_copyFrom_1 fl_X0_9 (shu_1 hu0) (alu_1 hun) (fun _ _ _ => rfl) (rfu_1_0 hu0) ?_
  refine g_iconst dX0_copyFrom_4 ?_
  refine g_aload_n dX0_copyFrom_5 rfl ?_
  refine g_getR dX0_copyFrom_6 fl_X0_9 sh_4 (al_4 hn) (fun _ _ _ => rfl) rf_4_0 ?_
  refine g_iconst dX0_copyFrom_9 ?_
  refine g_bipush dX0_copyFrom_10 rfl ?_
  refine g_copy dX0_copyFrom_12 cw_X0_40 (Nat.le_of_ble_eq_true rfl) (shu_2 hu0) (alu_2 hun) sh_5 (al_5 hn) (Nat.le_of_ble_eq_true rfl) (Nat.le_of_ble_eq_true rfl) (by decide) ?_
  refine g_aload_n dX0_copyFrom_15 rfl ?_
  refine g_getR dX0_copyFrom_16 fl_X0_15 (shu_1 hu0) (alu_1 hun) (fun _ _ _ => rfl) (rfu_1_1 hu0) ?_
  refine g_iconst dX0_copyFrom_19 ?_
  refine g_aload_n dX0_copyFrom_20 rfl ?_
  refine g_getR dX0_copyFrom_21 fl_X0_15 sh_4 (al_4 hn) (fun _ _ _ => rfl) rf_4_1 ?_
  refine g_iconst dX0_copyFrom_24 ?_
  refine g_bipush dX0_copyFrom_25 rfl ?_
  refine g_copy dX0_copyFrom_27 cw_X0_40 (Nat.le_of_ble_eq_true rfl) (shu_3 hu0) (alu_3 hun) sh_6 (al_6 hn) (Nat.le_of_ble_eq_true rfl) (Nat.le_of_ble_eq_true rfl) (by decide) ?_
  refine g_aload_n dX0_copyFrom_30 rfl ?_
  refine g_getR dX0_copyFrom_31 fl_X0_26 (shu_1 hu0) (alu_1 hun) (fun _ _ _ => rfl) (rfu_1_2 hu0) ?_
  refine g_iconst dX0_copyFrom_34 ?_
  refine g_aload_n dX0_copyFrom_35 rfl ?_
  refine g_getR dX0_copyFrom_36 fl_X0_26 sh_4 (al_4 hn) (fun _ _ _ => rfl) rf_4_2 ?_
  refine g_iconst dX0_copyFrom_39 ?_
  refine g_bipush dX0_copyFrom_40 rfl ?_
  refine g_copy dX0_copyFrom_42 cw_X0_40 (Nat.le_of_ble_eq_true rfl) (shu_4 hu0) (alu_4 hun) sh_7 (al_7 hn) (Nat.le_of_ble_eq_true rfl) (Nat.le_of_ble_eq_true rfl) (by decide) ?_
  refine g_aload_n dX0_copyFrom_45 rfl ?_
  refine g_aload_n dX0_copyFrom_46 rfl ?_
  refine g_getI (J := 3) dX0_copyFrom_47 fl_X0_29 (shu_1 hu0) (alu_1 hun) (fun _ _ _ => rfl) rfl ?_
  refine g_putI (J := 3) dX0_copyFrom_50 fl_X0_29 sh_4 (al_4 hn) rfl rfl ?_
  refine g_aload_n dX0_copyFrom_53 rfl ?_
  refine g_aload_n dX0_copyFrom_54 rfl ?_
  refine g_getI (J := 4) dX0_copyFrom_55 fl_X0_33 (shu_1 hu0) (alu_1 hun) (fun _ _ _ => rfl) rfl ?_
  refine g_putI (J := 4) dX0_copyFrom_58 fl_X0_33 sh_4 (al_4 hn) rfl rfl ?_
  refine g_aload_n dX0_copyFrom_61 rfl ?_
  refine g_aload_n dX0_copyFrom_62 rfl ?_
  refine g_getI (J := 5) dX0_copyFrom_63 fl_X0_46 (shu_1 hu0) (alu_1 hun) (fun _ _ _ => rfl) rfl ?_
  refine g_putI (J := 5) dX0_copyFrom_66 fl_X0_46 sh_4 (al_4 hn) rfl rfl ?_
  exact g_retV dX0_copyFrom_69 rfl w
theorem e_X0_copyFrom_out {l : Launch} {D : Nat} {ζ : ZP} {h : HI} {Q : HI → Prop} {u : Nat} (hn : 144 ≤ ζ.2.2.2.2) (hu0 : isU u) (hun : u + 30 ≤ ζ.2.2.2.2) (w : Q (hu (hu (hu (hcp (hcp (hcp h 5 0 (u + 2) 0 6) 6 0 (u + 3) 0 8) 7 0 (u + 4) 0 9) (u + 1) 3 ((hcp (hcp (hcp h 5 0 (u + 2) 0 6) 6 0 (u + 3) 0 8) 7 0 (u + 4) 0 9) 4 3)) (u + 1) 4 ((hu (hcp (hcp (hcp h 5 0 (u + 2) 0 6) 6 0 (u + 3) 0 8) 7 0 (u + 4) 0 9) (u + 1) 3 ((hcp (hcp (hcp h 5 0 (u + 2) 0 6) 6 0 (u + 3) 0 8) 7 0 (u + 4) 0 9) 4 3)) 4 4)) (u + 1) 5 ((hu (hu (hcp (hcp (hcp h 5 0 (u + 2) 0 6) 6 0 (u + 3) 0 8) 7 0 (u + 4) 0 9) (u + 1) 3 ((hcp (hcp (hcp h 5 0 (u + 2) 0 6) 6 0 (u + 3) 0 8) 7 0 (u + 4) 0 9) 4 3)) (u + 1) 4 ((hu (hcp (hcp (hcp h 5 0 (u + 2) 0 6) 6 0 (u + 3) 0 8) 7 0 (u + 4) 0 9) (u + 1) 3 ((hcp (hcp (hcp h 5 0 (u + 2) 0 6) 6 0 (u + 3) 0 8) 7 0 (u + 4) 0 9) 4 3)) 4 4)) 4 5))) : RtV l (D + 1) mX0_copyFrom (zz ζ) [aP (u + 1), aP 4] h Q := by
  refine RtV.of 0 pn_X0 [aP (u + 1), aP 4] rfl rfl ?_
  refine g_aload_n dX0_copyFrom_0 rfl ?_
  refine g_getR dX0_copyFrom_1 fl_X0_9 sh_4 (al_4 hn) (fun _ _ _ => rfl) rf_4_0 ?_
  refine g_iconst dX0_copyFrom_4 ?_
  refine g_aload_n dX0_copyFrom_5 rfl ?_
  refine g_getR dX0_copyFrom_6 fl_X0_9 (shu_1 hu0) (alu_1 hun) (fun _ _ _ => rfl) (rfu_1_0 hu0) ?_
  refine g_iconst dX0_copyFrom_9 ?_
  refine g_bipush dX0_copyFrom_10 rfl ?_
  refine g_copy dX0_copyFrom_12 cw_X0_40 (Nat.le_of_ble_eq_true rfl) sh_5 (al_5 hn) (shu_2 hu0) (alu_2 hun) (Nat.le_of_ble_eq_true rfl) (Nat.le_of_ble_eq_true rfl) (by decide) ?_
  refine g_aload_n dX0_copyFrom_15 rfl ?_
  refine g_getR dX0_copyFrom_16 fl_X0_15 sh_4 (al_4 hn) (fun _ _ _ => rfl) rf_4_1 ?_
  refine g_iconst dX0_copyFrom_19 ?_
  refine g_aload_n dX0_copyFrom_20 rfl ?_
  refine g_getR dX0_copyFrom_21 fl_X0_15 (shu_1 hu0) (alu_1 hun) (fun _ _ _ => rfl) (rfu_1_1 hu0) ?_
  refine g_iconst dX0_copyFrom_24 ?_
  refine g_bipush dX0_copyFrom_25 rfl ?_
  refine g_copy dX0_copyFrom_27 cw_X0_40 (Nat.le_of_ble_eq_true rfl) sh_6 (al_6 hn) (shu_3 hu0) (alu_3 hun) (Nat.le_of_ble_eq_true rfl) (Nat.le_of_ble_eq_true rfl) (by decide) ?_
  refine g_aload_n dX0_copyFrom_30 rfl ?_
  refine g_getR dX0_copyFrom_31 fl_X0_26 sh_4 (al_4 hn) (fun _ _ _ => rfl) rf_4_2 ?_
  refine g_iconst dX0_copyFrom_34 ?_
  refine g_aload_n dX0_copyFrom_35 rfl ?_
  refine g_getR dX0_copyFrom_36 fl_X0_26 (shu_1 hu0) (alu_1 hun) (fun _ _ _ => rfl) (rfu_1_2 hu0) ?_
  refine g_iconst dX0_copyFrom_39 ?_
  refine g_bipush dX0_copyFrom_40 rfl ?_
  refine g_copy dX0_copyFrom_42 cw_X0_40 (Nat.le_of_ble_eq_true rfl) sh_7 (al_7 hn) (shu_4 hu0) (alu_4 hun) (Nat.le_of_ble_eq_true rfl) (Nat.le_of_ble_eq_true rfl) (by decide) ?_
  refine g_aload_n dX0_copyFrom_45 rfl ?_
  refine g_aload_n dX0_copyFrom_46 rfl ?_
  refine g_getI (J := 3) dX0_copyFrom_47 fl_X0_29 sh_4 (al_4 hn) (fun _ _ _ => rfl) rfl ?_
  refine g_putI (J := 3) dX0_copyFrom_50 fl_X0_29 (shu_1 hu0) (alu_1 hun) rfl rfl ?_
  refine g_aload_n dX0_copyFrom_53 rfl ?_
  refine g_aload_n dX0_copyFrom_54 rfl ?_
  refine g_getI (J := 4) dX0_copyFrom_55 fl_X0_33 sh_4 (al_4 hn) (fun _ _ _ => rfl) rfl ?_
  refine g_putI (J := 4) dX0_copyFrom_58 fl_X0_33 (shu_1 hu0) (alu_1 hun) rfl rfl ?_
  refine g_aload_n dX0_copyFrom_61 rfl ?_
  refine g_aload_n dX0_copyFrom_62 rfl ?_
  refine g_getI (J := 5) dX0_copyFrom_63 fl_X0_46 sh_4 (al_4 hn) (fun _ _ _ => rfl) rfl ?_
  refine g_putI (J := 5) dX0_copyFrom_66 fl_X0_46 (shu_1 hu0) (alu_1 hun) rfl rfl ?_
  exact g_retV dX0_copyFrom_69 rfl w
theorem b_X0_readFrom_45 {l : Launch} {D : Nat} {ζ : ZP} {h : HI} {Q : Int → HI → Prop} {x2 : Int} (hn : 144 ≤ ζ.2.2.2.2) (w : (rg x2) ∧ (if x2 ≤ 0 then (Q 1 h) else ((rg (h 1 4)) ∧ (if (h 1 4) = 0 then (Q 1 h) else (RtI l D mX0_readLine (zz ζ) [aP 34, aP 1] h (fun r1 h1 => (rg r1) ∧ (if ¬ r1 = 0 then (G l (D + 1) 0 0 mX0_readFrom (zz ζ) 45 [aP 34, aP 1, aI (x2 + (-1))] [] (hu h1 34 5 ((h1 34 5) + 1)) (qI (zz ζ) Q)) else (Q 0 h1)))))))) : G l (D + 1) 0 0 mX0_readFrom (zz ζ) 45 [aP 34, aP 1, aI x2] [] h (qI (zz ζ) Q) := by
  refine g_iload_n dX0_readFrom_45 rfl ?_
  obtain ⟨o1, w⟩ := w
  refine g_if_le (tgt := 82) dX0_readFrom_46 rfl o1 ?_
  refine ite_imp (fun w => ?_) (fun w => ?_) w
  · refine g_iconst dX0_readFrom_82 ?_
    exact g_retZ dX0_readFrom_83 rfl (Or.inr rfl) w
  · refine g_aload_n dX0_readFrom_49 rfl ?_
    refine g_getI (J := 4) dX0_readFrom_50 fl_X0_58 sh_1 (al_1 hn) (fun _ _ _ => rfl) rfl ?_
    obtain ⟨o2, w⟩ := w
    refine g_if_eq (tgt := 82) dX0_readFrom_53 rfl o2 ?_
    refine ite_imp (fun w => ?_) (fun w => ?_) w
    · refine g_iconst dX0_readFrom_82 ?_
      exact g_retZ dX0_readFrom_83 rfl (Or.inr rfl) w
    · refine g_aload_n dX0_readFrom_56 rfl ?_
      refine g_aload_n dX0_readFrom_57 rfl ?_
      refine g_callVI (n := 1) (As := [aP 1]) (st := []) dX0_readFrom_58 ml_X0_61 sh_34 rfl (al_34 hn) rfl rfl (Nat.le_of_ble_eq_true rfl) (RtI.mono w (fun r1 h1 w => ?_))
      obtain ⟨o3, w⟩ := w
      refine g_if_ne (tgt := 66) dX0_readFrom_61 rfl o3 ?_
      refine ite_imp (fun w => ?_) (fun w => ?_) w
      · refine g_aload_n dX0_readFrom_66 rfl ?_
        refine g_dup dX0_readFrom_67 rfl ?_
        refine g_getI (J := 5) dX0_readFrom_68 fl_X0_46 sh_34 (al_34 hn) (fun _ _ _ => rfl) rfl ?_
        refine g_iconst dX0_readFrom_71 ?_
        refine g_iadd dX0_readFrom_72 ?_
        refine g_putI (J := 5) dX0_readFrom_73 fl_X0_46 sh_34 (al_34 hn) rfl rfl ?_
        refine g_iinc (ls' := [aP 34, aP 1, aI (x2 + (-1))]) dX0_readFrom_76 rfl (Nat.le_of_ble_eq_true rfl) rfl rfl ?_
        refine g_goto (tgt := 45) dX0_readFrom_79 rfl ?_
        exact g_sub (ls' := [aP 34, aP 1, aI (x2 + (-1))]) ⟨Or.inr rfl, Or.inr rfl, Or.inr rfl, trivial⟩ w
      · refine g_iconst dX0_readFrom_64 ?_
        exact g_retZ dX0_readFrom_65 rfl (Or.inl rfl) w
theorem e_X0_readFrom {l : Launch} {D : Nat} {ζ : ZP} {h : HI} {Q : Int → HI → Prop} (hn : 144 ≤ ζ.2.2.2.2) (w : RtV l D mX7_begin (zz ζ) [aP 1, aI 500] (hcs (hu (hu (hu (hu h 34 3 0) 34 4 0) 34 5 0) 34 6 0) 2 0 37 0 9) (fun h1 => G l (D + 1) 0 0 mX0_readFrom (zz ζ) 45 [aP 34, aP 1, aI 540] [] h1 (qI (zz ζ) Q))) : RtI l (D + 1) mX0_readFrom (zz ζ) [aP 34, aP 1] h Q := by
  refine RtI.of 1 pn_X0 [aP 34, aP 1, aU] rfl rfl ?_
  refine g_aload_n dX0_readFrom_0 rfl ?_
  refine g_iconst dX0_readFrom_1 ?_
  refine g_putI (J := 3) dX0_readFrom_2 fl_X0_29 sh_34 (al_34 hn) rfl rfl ?_
  refine g_aload_n dX0_readFrom_5 rfl ?_
  refine g_iconst dX0_readFrom_6 ?_
  refine g_putI (J := 4) dX0_readFrom_7 fl_X0_33 sh_34 (al_34 hn) rfl rfl ?_
  refine g_aload_n dX0_readFrom_10 rfl ?_
  refine g_iconst dX0_readFrom_11 ?_
  refine g_putI (J := 5) dX0_readFrom_12 fl_X0_46 sh_34 (al_34 hn) rfl rfl ?_
  refine g_aload_n dX0_readFrom_15 rfl ?_
  refine g_iconst dX0_readFrom_16 ?_
  refine g_putI (J := 6) dX0_readFrom_17 fl_X0_49 sh_34 (al_34 hn) rfl rfl ?_
  refine g_law (t := 2) dX0_readFrom_20 lw_X0_18 (by decide) ?_
  refine g_iconst dX0_readFrom_23 ?_
  refine g_aload_n dX0_readFrom_24 rfl ?_
  refine g_getR dX0_readFrom_25 fl_X0_26 sh_34 (al_34 hn) (fun _ _ _ => rfl) rf_34_2 ?_
  refine g_iconst dX0_readFrom_28 ?_
  refine g_bipush dX0_readFrom_29 rfl ?_
  refine g_copyS (t := 2) dX0_readFrom_31 cw_X0_40 (Nat.le_of_ble_eq_true rfl) (by decide) sh_37 (al_37 hn) (Nat.le_of_ble_eq_true rfl) (by decide) ?_
  refine g_aload_n dX0_readFrom_34 rfl ?_
  refine g_sipush dX0_readFrom_35 rfl ?_
  refine g_callVV (n := 1) (As := [aI 500]) (st := []) dX0_readFrom_38 ml_X0_52 sh_1 rfl (al_1 hn) rfl rfl (Nat.le_of_ble_eq_true rfl) (RtV.mono w (fun h1 w => ?_))
  refine g_sipush dX0_readFrom_41 rfl ?_
  refine g_istore_n (ls' := [aP 34, aP 1, aI 540]) dX0_readFrom_44 (Nat.le_of_ble_eq_true rfl) rfl rfl ?_
  exact g_sub (ls' := [aP 34, aP 1, aI 540]) ⟨Or.inr rfl, Or.inr rfl, Or.inr rfl, trivial⟩ w
theorem e_X0_readLine {l : Launch} {D : Nat} {ζ : ZP} {h : HI} {Q : Int → HI → Prop} (hn : 144 ≤ ζ.2.2.2.2) (w : (rg (h 1 7)) ∧ (if (h 1 7) < 0 then (RtI l D mX7_refuse (zz ζ) [aP 1, aI 1] h (fun r1 h1 => (r1 = 0 ∨ r1 = 1) ∧ Q r1 h1)) else (if (h 1 7) ≤ 9 then (if 1 < (h 1 7) then (RtI l D mX0_readLaw (zz ζ) [aP 34, aP 1, aI (h 1 7)] h (fun r2 h2 => (rg r2) ∧ (if r2 = 0 then (Q 0 h2) else (RtI l D mX7_takeSign (zz ζ) [aP 1, aI 59] h2 (fun r3 h3 => (rg r3) ∧ (if r3 = 0 then (Q 0 h3) else (Q 1 h3))))))) else (RtI l D mX0_readName (zz ζ) [aP 34, aP 1, aI (h 1 7)] h (fun r4 h4 => (rg r4) ∧ (if r4 = 0 then (Q 0 h4) else (RtI l D mX7_takeSign (zz ζ) [aP 1, aI 59] h4 (fun r5 h5 => (rg r5) ∧ (if r5 = 0 then (Q 0 h5) else (Q 1 h5)))))))) else (RtI l D mX7_refuse (zz ζ) [aP 1, aI 1] h (fun r6 h6 => (r6 = 0 ∨ r6 = 1) ∧ Q r6 h6))))) : RtI l (D + 1) mX0_readLine (zz ζ) [aP 34, aP 1] h Q := by
  refine RtI.of 1 pn_X0 [aP 34, aP 1, aU] rfl rfl ?_
  refine g_aload_n dX0_readLine_0 rfl ?_
  refine g_getI (J := 7) dX0_readLine_1 fl_X0_65 sh_1 (al_1 hn) (fun _ _ _ => rfl) rfl ?_
  refine g_istore_n (ls' := [aP 34, aP 1, aI (h 1 7)]) dX0_readLine_4 (Nat.le_of_ble_eq_true rfl) rfl rfl ?_
  refine g_iload_n dX0_readLine_5 rfl ?_
  obtain ⟨o1, w⟩ := w
  refine g_if_lt (tgt := 15) dX0_readLine_6 rfl o1 ?_
  refine ite_imp (fun w => ?_) (fun w => ?_) w
  · refine g_aload_n dX0_readLine_15 rfl ?_
    refine g_iconst dX0_readLine_16 ?_
    refine g_callVI (n := 1) (As := [aI 1]) (st := []) dX0_readLine_17 ml_X0_68 sh_1 rfl (al_1 hn) rfl rfl (Nat.le_of_ble_eq_true rfl) (RtI.mono w (fun r1 h1 w => ?_))
    obtain ⟨o2, w⟩ := w
    exact g_retZ dX0_readLine_20 rfl o2 w
  · refine g_iload_n dX0_readLine_9 rfl ?_
    refine g_bipush dX0_readLine_10 rfl ?_
    refine g_cmp_le (tgt := 21) dX0_readLine_12 rfl o1 (by decide) ?_
    refine ite_imp (fun w => ?_) (fun w => ?_) w
    · refine g_iload_n dX0_readLine_21 rfl ?_
      refine g_iconst dX0_readLine_22 ?_
      refine g_cmp_gt (tgt := 38) dX0_readLine_23 rfl o1 (by decide) ?_
      refine ite_imp (fun w => ?_) (fun w => ?_) w
      · refine g_aload_n dX0_readLine_38 rfl ?_
        refine g_aload_n dX0_readLine_39 rfl ?_
        refine g_iload_n dX0_readLine_40 rfl ?_
        refine g_callVI (n := 2) (As := [aP 1, aI (h 1 7)]) (st := []) dX0_readLine_41 ml_X0_76 sh_34 rfl (al_34 hn) rfl rfl (Nat.le_of_ble_eq_true rfl) (RtI.mono w (fun r2 h2 w => ?_))
        obtain ⟨o3, w⟩ := w
        refine g_if_eq (tgt := 60) dX0_readLine_44 rfl o3 ?_
        refine ite_imp (fun w => ?_) (fun w => ?_) w
        · refine g_iconst dX0_readLine_60 ?_
          exact g_retZ dX0_readLine_61 rfl (Or.inl rfl) w
        · refine g_aload_n dX0_readLine_47 rfl ?_
          refine g_bipush dX0_readLine_48 rfl ?_
          refine g_callVI (n := 1) (As := [aI 59]) (st := []) dX0_readLine_50 ml_X0_79 sh_1 rfl (al_1 hn) rfl rfl (Nat.le_of_ble_eq_true rfl) (RtI.mono w (fun r3 h3 w => ?_))
          obtain ⟨o4, w⟩ := w
          refine g_if_eq (tgt := 60) dX0_readLine_53 rfl o4 ?_
          refine ite_imp (fun w => ?_) (fun w => ?_) w
          · refine g_iconst dX0_readLine_60 ?_
            exact g_retZ dX0_readLine_61 rfl (Or.inl rfl) w
          · refine g_iconst dX0_readLine_56 ?_
            refine g_goto (tgt := 61) dX0_readLine_57 rfl ?_
            exact g_retZ dX0_readLine_61 rfl (Or.inr rfl) w
      · refine g_aload_n dX0_readLine_26 rfl ?_
        refine g_aload_n dX0_readLine_27 rfl ?_
        refine g_iload_n dX0_readLine_28 rfl ?_
        refine g_callVI (n := 2) (As := [aP 1, aI (h 1 7)]) (st := []) dX0_readLine_29 ml_X0_72 sh_34 rfl (al_34 hn) rfl rfl (Nat.le_of_ble_eq_true rfl) (RtI.mono w (fun r4 h4 w => ?_))
        obtain ⟨o5, w⟩ := w
        refine g_if_eq (tgt := 60) dX0_readLine_32 rfl o5 ?_
        refine ite_imp (fun w => ?_) (fun w => ?_) w
        · refine g_iconst dX0_readLine_60 ?_
          exact g_retZ dX0_readLine_61 rfl (Or.inl rfl) w
        · refine g_goto (tgt := 47) dX0_readLine_35 rfl ?_
          refine g_aload_n dX0_readLine_47 rfl ?_
          refine g_bipush dX0_readLine_48 rfl ?_
          refine g_callVI (n := 1) (As := [aI 59]) (st := []) dX0_readLine_50 ml_X0_79 sh_1 rfl (al_1 hn) rfl rfl (Nat.le_of_ble_eq_true rfl) (RtI.mono w (fun r5 h5 w => ?_))
          obtain ⟨o6, w⟩ := w
          refine g_if_eq (tgt := 60) dX0_readLine_53 rfl o6 ?_
          refine ite_imp (fun w => ?_) (fun w => ?_) w
          · refine g_iconst dX0_readLine_60 ?_
            exact g_retZ dX0_readLine_61 rfl (Or.inl rfl) w
          · refine g_iconst dX0_readLine_56 ?_
            refine g_goto (tgt := 61) dX0_readLine_57 rfl ?_
            exact g_retZ dX0_readLine_61 rfl (Or.inr rfl) w
    · refine g_aload_n dX0_readLine_15 rfl ?_
      refine g_iconst dX0_readLine_16 ?_
      refine g_callVI (n := 1) (As := [aI 1]) (st := []) dX0_readLine_17 ml_X0_68 sh_1 rfl (al_1 hn) rfl rfl (Nat.le_of_ble_eq_true rfl) (RtI.mono w (fun r6 h6 w => ?_))
      obtain ⟨o7, w⟩ := w
      exact g_retZ dX0_readLine_20 rfl o7 w
theorem b_X0_readName_31 {l : Launch} {D : Nat} {ζ : ZP} {h : HI} {Q : Int → HI → Prop} {x2 : Int} (hn : 144 ≤ ζ.2.2.2.2) (w : RtV l D mX7_step (zz ζ) [aP 1] h (fun h1 => RtI l D mX7_isName (zz ζ) [aP 1] h1 (fun r2 h2 => (rg r2) ∧ (if ¬ r2 = 0 then (RtI l D mX0_isTold (zz ζ) [aP 34, aI (h2 1 6)] h2 (fun r3 h3 => (rg r3) ∧ (if r3 = 0 then ((rg x2) ∧ (if ¬ x2 = 0 then ((0 ≤ (h3 34 4) ∧ (h3 34 4) < 8) ∧ RtV l D mX7_step (zz ζ) [aP 1] (hu (hu h3 36 (h3 34 4) (h3 1 6)) 34 4 ((h3 34 4) + 1)) (fun h4 => Q 1 h4)) else ((0 ≤ (h3 34 3) ∧ (h3 34 3) < 6) ∧ RtV l D mX7_step (zz ζ) [aP 1] (hu (hu h3 35 (h3 34 3) (h3 1 6)) 34 3 ((h3 34 3) + 1)) (fun h5 => Q 1 h5)))) else (RtI l D mX7_refuse (zz ζ) [aP 1, aI 3] h3 (fun r6 h6 => (r6 = 0 ∨ r6 = 1) ∧ Q r6 h6))))) else (RtI l D mX7_refuse (zz ζ) [aP 1, aI 1] h2 (fun r7 h7 => (r7 = 0 ∨ r7 = 1) ∧ Q r7 h7)))))) : G l (D + 1) 0 0 mX0_readName (zz ζ) 31 [aP 34, aP 1, aI x2] [] h (qI (zz ζ) Q) := by
  refine g_aload_n dX0_readName_31 rfl ?_
  refine g_callVV (n := 0) (As := []) (st := []) dX0_readName_32 ml_X0_82 sh_1 rfl (al_1 hn) rfl rfl (Nat.le_of_ble_eq_true rfl) (RtV.mono w (fun h1 w => ?_))
  refine g_aload_n dX0_readName_35 rfl ?_
  refine g_callVI (n := 0) (As := []) (st := []) dX0_readName_36 ml_X0_85 sh_1 rfl (al_1 hn) rfl rfl (Nat.le_of_ble_eq_true rfl) (RtI.mono w (fun r2 h2 w => ?_))
  obtain ⟨o1, w⟩ := w
  refine g_if_ne (tgt := 48) dX0_readName_39 rfl o1 ?_
  refine ite_imp (fun w => ?_) (fun w => ?_) w
  · refine g_aload_n dX0_readName_48 rfl ?_
    refine g_aload_n dX0_readName_49 rfl ?_
    refine g_getI (J := 6) dX0_readName_50 fl_X0_89 sh_1 (al_1 hn) (fun _ _ _ => rfl) rfl ?_
    refine g_callVI (n := 1) (As := [aI (h2 1 6)]) (st := []) dX0_readName_53 ml_X0_92 sh_34 rfl (al_34 hn) rfl rfl (Nat.le_of_ble_eq_true rfl) (RtI.mono w (fun r3 h3 w => ?_))
    obtain ⟨o2, w⟩ := w
    refine g_if_eq (tgt := 65) dX0_readName_56 rfl o2 ?_
    refine ite_imp (fun w => ?_) (fun w => ?_) w
    · refine g_iload_n dX0_readName_65 rfl ?_
      obtain ⟨o3, w⟩ := w
      refine g_if_ne (tgt := 95) dX0_readName_66 rfl o3 ?_
      refine ite_imp (fun w => ?_) (fun w => ?_) w
      · refine g_aload_n dX0_readName_95 rfl ?_
        refine g_getR dX0_readName_96 fl_X0_15 sh_34 (al_34 hn) (fun _ _ _ => rfl) rf_34_1 ?_
        refine g_aload_n dX0_readName_99 rfl ?_
        refine g_getI (J := 4) dX0_readName_100 fl_X0_33 sh_34 (al_34 hn) (fun _ _ _ => rfl) rfl ?_
        refine g_aload_n dX0_readName_103 rfl ?_
        refine g_getI (J := 6) dX0_readName_104 fl_X0_89 sh_1 (al_1 hn) (fun _ _ _ => rfl) rfl ?_
        obtain ⟨o4, w⟩ := w
        refine g_iast dX0_readName_107 sh_36 (al_36 hn) (Nat.le_of_ble_eq_true rfl) o4 ?_
        refine g_aload_n dX0_readName_108 rfl ?_
        refine g_dup dX0_readName_109 rfl ?_
        refine g_getI (J := 4) dX0_readName_110 fl_X0_33 sh_34 (al_34 hn) (fun _ _ _ => rfl) rfl ?_
        refine g_iconst dX0_readName_113 ?_
        refine g_iadd dX0_readName_114 ?_
        refine g_putI (J := 4) dX0_readName_115 fl_X0_33 sh_34 (al_34 hn) rfl rfl ?_
        refine g_aload_n dX0_readName_118 rfl ?_
        refine g_callVV (n := 0) (As := []) (st := []) dX0_readName_119 ml_X0_82 sh_1 rfl (al_1 hn) rfl rfl (Nat.le_of_ble_eq_true rfl) (RtV.mono w (fun h4 w => ?_))
        refine g_iconst dX0_readName_122 ?_
        exact g_retZ dX0_readName_123 rfl (Or.inr rfl) w
      · refine g_aload_n dX0_readName_69 rfl ?_
        refine g_getR dX0_readName_70 fl_X0_9 sh_34 (al_34 hn) (fun _ _ _ => rfl) rf_34_0 ?_
        refine g_aload_n dX0_readName_73 rfl ?_
        refine g_getI (J := 3) dX0_readName_74 fl_X0_29 sh_34 (al_34 hn) (fun _ _ _ => rfl) rfl ?_
        refine g_aload_n dX0_readName_77 rfl ?_
        refine g_getI (J := 6) dX0_readName_78 fl_X0_89 sh_1 (al_1 hn) (fun _ _ _ => rfl) rfl ?_
        obtain ⟨o5, w⟩ := w
        refine g_iast dX0_readName_81 sh_35 (al_35 hn) (Nat.le_of_ble_eq_true rfl) o5 ?_
        refine g_aload_n dX0_readName_82 rfl ?_
        refine g_dup dX0_readName_83 rfl ?_
        refine g_getI (J := 3) dX0_readName_84 fl_X0_29 sh_34 (al_34 hn) (fun _ _ _ => rfl) rfl ?_
        refine g_iconst dX0_readName_87 ?_
        refine g_iadd dX0_readName_88 ?_
        refine g_putI (J := 3) dX0_readName_89 fl_X0_29 sh_34 (al_34 hn) rfl rfl ?_
        refine g_goto (tgt := 118) dX0_readName_92 rfl ?_
        refine g_aload_n dX0_readName_118 rfl ?_
        refine g_callVV (n := 0) (As := []) (st := []) dX0_readName_119 ml_X0_82 sh_1 rfl (al_1 hn) rfl rfl (Nat.le_of_ble_eq_true rfl) (RtV.mono w (fun h5 w => ?_))
        refine g_iconst dX0_readName_122 ?_
        exact g_retZ dX0_readName_123 rfl (Or.inr rfl) w
    · refine g_aload_n dX0_readName_59 rfl ?_
      refine g_iconst dX0_readName_60 ?_
      refine g_callVI (n := 1) (As := [aI 3]) (st := []) dX0_readName_61 ml_X0_68 sh_1 rfl (al_1 hn) rfl rfl (Nat.le_of_ble_eq_true rfl) (RtI.mono w (fun r6 h6 w => ?_))
      obtain ⟨o6, w⟩ := w
      exact g_retZ dX0_readName_64 rfl o6 w
  · refine g_aload_n dX0_readName_42 rfl ?_
    refine g_iconst dX0_readName_43 ?_
    refine g_callVI (n := 1) (As := [aI 1]) (st := []) dX0_readName_44 ml_X0_68 sh_1 rfl (al_1 hn) rfl rfl (Nat.le_of_ble_eq_true rfl) (RtI.mono w (fun r7 h7 w => ?_))
    obtain ⟨o7, w⟩ := w
    exact g_retZ dX0_readName_47 rfl o7 w
theorem e_X0_readName {l : Launch} {D : Nat} {ζ : ZP} {h : HI} {Q : Int → HI → Prop} {x2 : Int} (hn : 144 ≤ ζ.2.2.2.2) (w : (rg x2) ∧ (if ¬ x2 = 0 then ((rg (h 34 4)) ∧ (if (h 34 4) < 8 then (G l (D + 1) 0 0 mX0_readName (zz ζ) 31 [aP 34, aP 1, aI x2] [] h (qI (zz ζ) Q)) else (RtI l D mX7_refuse (zz ζ) [aP 1, aI 4] h (fun r1 h1 => (r1 = 0 ∨ r1 = 1) ∧ Q r1 h1)))) else ((rg (h 34 3)) ∧ (if (h 34 3) < 6 then (G l (D + 1) 0 0 mX0_readName (zz ζ) 31 [aP 34, aP 1, aI x2] [] h (qI (zz ζ) Q)) else (RtI l D mX7_refuse (zz ζ) [aP 1, aI 4] h (fun r2 h2 => (r2 = 0 ∨ r2 = 1) ∧ Q r2 h2)))))) : RtI l (D + 1) mX0_readName (zz ζ) [aP 34, aP 1, aI x2] h Q := by
  refine RtI.of 0 pn_X0 [aP 34, aP 1, aI x2] rfl rfl ?_
  refine g_iload_n dX0_readName_0 rfl ?_
  obtain ⟨o1, w⟩ := w
  refine g_if_ne (tgt := 16) dX0_readName_1 rfl o1 ?_
  refine ite_imp (fun w => ?_) (fun w => ?_) w
  · refine g_aload_n dX0_readName_16 rfl ?_
    refine g_getI (J := 4) dX0_readName_17 fl_X0_33 sh_34 (al_34 hn) (fun _ _ _ => rfl) rfl ?_
    refine g_bipush dX0_readName_20 rfl ?_
    obtain ⟨o2, w⟩ := w
    refine g_cmp_lt (tgt := 31) dX0_readName_22 rfl o2 (by decide) ?_
    refine ite_imp (fun w => ?_) (fun w => ?_) w
    · exact g_sub (ls' := [aP 34, aP 1, aI x2]) ⟨Or.inr rfl, Or.inr rfl, Or.inr rfl, trivial⟩ w
    · refine g_aload_n dX0_readName_25 rfl ?_
      refine g_iconst dX0_readName_26 ?_
      refine g_callVI (n := 1) (As := [aI 4]) (st := []) dX0_readName_27 ml_X0_68 sh_1 rfl (al_1 hn) rfl rfl (Nat.le_of_ble_eq_true rfl) (RtI.mono w (fun r1 h1 w => ?_))
      obtain ⟨o3, w⟩ := w
      exact g_retZ dX0_readName_30 rfl o3 w
  · refine g_aload_n dX0_readName_4 rfl ?_
    refine g_getI (J := 3) dX0_readName_5 fl_X0_29 sh_34 (al_34 hn) (fun _ _ _ => rfl) rfl ?_
    refine g_bipush dX0_readName_8 rfl ?_
    obtain ⟨o4, w⟩ := w
    refine g_cmp_lt (tgt := 31) dX0_readName_10 rfl o4 (by decide) ?_
    refine ite_imp (fun w => ?_) (fun w => ?_) w
    · exact g_sub (ls' := [aP 34, aP 1, aI x2]) ⟨Or.inr rfl, Or.inr rfl, Or.inr rfl, trivial⟩ w
    · refine g_goto (tgt := 25) dX0_readName_13 rfl ?_
      refine g_aload_n dX0_readName_25 rfl ?_
      refine g_iconst dX0_readName_26 ?_
      refine g_callVI (n := 1) (As := [aI 4]) (st := []) dX0_readName_27 ml_X0_68 sh_1 rfl (al_1 hn) rfl rfl (Nat.le_of_ble_eq_true rfl) (RtI.mono w (fun r2 h2 w => ?_))
      obtain ⟨o5, w⟩ := w
      exact g_retZ dX0_readName_30 rfl o5 w
theorem e_X0_readLaw {l : Launch} {D : Nat} {ζ : ZP} {h : HI} {Q : Int → HI → Prop} {x2 : Int} (hn : 144 ≤ ζ.2.2.2.2) (w : (rg (band (bshr (h 34 6) x2) 1)) ∧ (if (band (bshr (h 34 6) x2) 1) = 0 then (RtV l D mX7_step (zz ζ) [aP 1] (hu h 34 6 (bor (h 34 6) (bshl 1 x2))) (fun h1 => (rg x2) ∧ (if ¬ x2 = 2 then (RtI l D mX0_readValue (zz ζ) [aP 34, aP 1, aI ((x2 - 2) + 1)] h1 (fun r2 h2 => (r2 = 0 ∨ r2 = 1) ∧ Q r2 h2)) else (RtI l D mX0_readValue (zz ζ) [aP 34, aP 1, aI 0] h1 (fun r3 h3 => (rg r3) ∧ (if r3 = 0 then (Q 0 h3) else (RtI l D mX0_readValue (zz ζ) [aP 34, aP 1, aI 1] h3 (fun r4 h4 => (rg r4) ∧ (if r4 = 0 then (Q 0 h4) else (Q 1 h4)))))))))) else (RtI l D mX7_refuse (zz ζ) [aP 1, aI 3] h (fun r5 h5 => (r5 = 0 ∨ r5 = 1) ∧ Q r5 h5)))) : RtI l (D + 1) mX0_readLaw (zz ζ) [aP 34, aP 1, aI x2] h Q := by
  refine RtI.of 0 pn_X0 [aP 34, aP 1, aI x2] rfl rfl ?_
  refine g_aload_n dX0_readLaw_0 rfl ?_
  refine g_getI (J := 6) dX0_readLaw_1 fl_X0_49 sh_34 (al_34 hn) (fun _ _ _ => rfl) rfl ?_
  refine g_iload_n dX0_readLaw_4 rfl ?_
  refine g_ishr dX0_readLaw_5 ?_
  refine g_iconst dX0_readLaw_6 ?_
  refine g_iand dX0_readLaw_7 ?_
  obtain ⟨o1, w⟩ := w
  refine g_if_eq (tgt := 17) dX0_readLaw_8 rfl o1 ?_
  refine ite_imp (fun w => ?_) (fun w => ?_) w
  · refine g_aload_n dX0_readLaw_17 rfl ?_
    refine g_dup dX0_readLaw_18 rfl ?_
    refine g_getI (J := 6) dX0_readLaw_19 fl_X0_49 sh_34 (al_34 hn) (fun _ _ _ => rfl) rfl ?_
    refine g_iconst dX0_readLaw_22 ?_
    refine g_iload_n dX0_readLaw_23 rfl ?_
    refine g_ishl dX0_readLaw_24 ?_
    refine g_ior dX0_readLaw_25 ?_
    refine g_putI (J := 6) dX0_readLaw_26 fl_X0_49 sh_34 (al_34 hn) rfl rfl ?_
    refine g_aload_n dX0_readLaw_29 rfl ?_
    refine g_callVV (n := 0) (As := []) (st := []) dX0_readLaw_30 ml_X0_82 sh_1 rfl (al_1 hn) rfl rfl (Nat.le_of_ble_eq_true rfl) (RtV.mono w (fun h1 w => ?_))
    refine g_iload_n dX0_readLaw_33 rfl ?_
    refine g_iconst dX0_readLaw_34 ?_
    obtain ⟨o2, w⟩ := w
    refine g_cmp_ne (tgt := 62) dX0_readLaw_35 rfl o2 (by decide) ?_
    refine ite_imp (fun w => ?_) (fun w => ?_) w
    · refine g_aload_n dX0_readLaw_62 rfl ?_
      refine g_aload_n dX0_readLaw_63 rfl ?_
      refine g_iload_n dX0_readLaw_64 rfl ?_
      refine g_iconst dX0_readLaw_65 ?_
      refine g_isub dX0_readLaw_66 ?_
      refine g_iconst dX0_readLaw_67 ?_
      refine g_iadd dX0_readLaw_68 ?_
      refine g_callVI (n := 2) (As := [aP 1, aI ((x2 - 2) + 1)]) (st := []) dX0_readLaw_69 ml_X0_95 sh_34 rfl (al_34 hn) rfl rfl (Nat.le_of_ble_eq_true rfl) (RtI.mono w (fun r2 h2 w => ?_))
      obtain ⟨o3, w⟩ := w
      exact g_retZ dX0_readLaw_72 rfl o3 w
    · refine g_aload_n dX0_readLaw_38 rfl ?_
      refine g_aload_n dX0_readLaw_39 rfl ?_
      refine g_iconst dX0_readLaw_40 ?_
      refine g_callVI (n := 2) (As := [aP 1, aI 0]) (st := []) dX0_readLaw_41 ml_X0_95 sh_34 rfl (al_34 hn) rfl rfl (Nat.le_of_ble_eq_true rfl) (RtI.mono w (fun r3 h3 w => ?_))
      obtain ⟨o4, w⟩ := w
      refine g_if_eq (tgt := 60) dX0_readLaw_44 rfl o4 ?_
      refine ite_imp (fun w => ?_) (fun w => ?_) w
      · refine g_iconst dX0_readLaw_60 ?_
        exact g_retZ dX0_readLaw_61 rfl (Or.inl rfl) w
      · refine g_aload_n dX0_readLaw_47 rfl ?_
        refine g_aload_n dX0_readLaw_48 rfl ?_
        refine g_iconst dX0_readLaw_49 ?_
        refine g_callVI (n := 2) (As := [aP 1, aI 1]) (st := []) dX0_readLaw_50 ml_X0_95 sh_34 rfl (al_34 hn) rfl rfl (Nat.le_of_ble_eq_true rfl) (RtI.mono w (fun r4 h4 w => ?_))
        obtain ⟨o5, w⟩ := w
        refine g_if_eq (tgt := 60) dX0_readLaw_53 rfl o5 ?_
        refine ite_imp (fun w => ?_) (fun w => ?_) w
        · refine g_iconst dX0_readLaw_60 ?_
          exact g_retZ dX0_readLaw_61 rfl (Or.inl rfl) w
        · refine g_iconst dX0_readLaw_56 ?_
          refine g_goto (tgt := 61) dX0_readLaw_57 rfl ?_
          exact g_retZ dX0_readLaw_61 rfl (Or.inr rfl) w
  · refine g_aload_n dX0_readLaw_11 rfl ?_
    refine g_iconst dX0_readLaw_12 ?_
    refine g_callVI (n := 1) (As := [aI 3]) (st := []) dX0_readLaw_13 ml_X0_68 sh_1 rfl (al_1 hn) rfl rfl (Nat.le_of_ble_eq_true rfl) (RtI.mono w (fun r5 h5 w => ?_))
    obtain ⟨o6, w⟩ := w
    exact g_retZ dX0_readLaw_16 rfl o6 w
theorem e_X0_readValue {l : Launch} {D : Nat} {ζ : ZP} {h : HI} {Q : Int → HI → Prop} {x2 : Int} (hn : 144 ≤ ζ.2.2.2.2) (w : (rg x2) ∧ (if x2 < 0 then (Q 0 h) else (if 9 ≤ x2 then (Q 0 h) else ((0 ≤ x2 ∧ x2 < 9) ∧ RtI l D mX7_isNumber (zz ζ) [aP 1, aI (lawv 0 x2), aI (lawv 1 x2)] h (fun r1 h1 => (rg r1) ∧ (if ¬ r1 = 0 then (RtV l D mX7_step (zz ζ) [aP 1] (hu h1 37 x2 (h1 1 6)) (fun h2 => Q 1 h2)) else (Q 0 h1))))))) : RtI l (D + 1) mX0_readValue (zz ζ) [aP 34, aP 1, aI x2] h Q := by
  refine RtI.of 0 pn_X0 [aP 34, aP 1, aI x2] rfl rfl ?_
  refine g_iload_n dX0_readValue_0 rfl ?_
  obtain ⟨o1, w⟩ := w
  refine g_if_lt (tgt := 27) dX0_readValue_1 rfl o1 ?_
  refine ite_imp (fun w => ?_) (fun w => ?_) w
  · refine g_iconst dX0_readValue_27 ?_
    exact g_retZ dX0_readValue_28 rfl (Or.inl rfl) w
  · refine g_iload_n dX0_readValue_4 rfl ?_
    refine g_bipush dX0_readValue_5 rfl ?_
    refine g_cmp_ge (tgt := 27) dX0_readValue_7 rfl o1 (by decide) ?_
    refine ite_imp (fun w => ?_) (fun w => ?_) w
    · refine g_iconst dX0_readValue_27 ?_
      exact g_retZ dX0_readValue_28 rfl (Or.inl rfl) w
    · refine g_aload_n dX0_readValue_10 rfl ?_
      refine g_law (t := 0) dX0_readValue_11 lw_X0_98 (by decide) ?_
      refine g_iload_n dX0_readValue_14 rfl ?_
      obtain ⟨o2, w⟩ := w
      refine g_lawld (t := 0) dX0_readValue_15 (by decide) o2 ?_
      refine g_law (t := 1) dX0_readValue_16 lw_X0_101 (by decide) ?_
      refine g_iload_n dX0_readValue_19 rfl ?_
      refine g_lawld (t := 1) dX0_readValue_20 (by decide) o2 ?_
      refine g_callVI (n := 2) (As := [aI (lawv 0 x2), aI (lawv 1 x2)]) (st := []) dX0_readValue_21 ml_X0_104 sh_1 rfl (al_1 hn) rfl rfl (Nat.le_of_ble_eq_true rfl) (RtI.mono w (fun r1 h1 w => ?_))
      obtain ⟨o3, w⟩ := w
      refine g_if_ne (tgt := 29) dX0_readValue_24 rfl o3 ?_
      refine ite_imp (fun w => ?_) (fun w => ?_) w
      · refine g_aload_n dX0_readValue_29 rfl ?_
        refine g_getR dX0_readValue_30 fl_X0_26 sh_34 (al_34 hn) (fun _ _ _ => rfl) rf_34_2 ?_
        refine g_iload_n dX0_readValue_33 rfl ?_
        refine g_aload_n dX0_readValue_34 rfl ?_
        refine g_getI (J := 6) dX0_readValue_35 fl_X0_89 sh_1 (al_1 hn) (fun _ _ _ => rfl) rfl ?_
        refine g_iast dX0_readValue_38 sh_37 (al_37 hn) (Nat.le_of_ble_eq_true rfl) o2 ?_
        refine g_aload_n dX0_readValue_39 rfl ?_
        refine g_callVV (n := 0) (As := []) (st := []) dX0_readValue_40 ml_X0_82 sh_1 rfl (al_1 hn) rfl rfl (Nat.le_of_ble_eq_true rfl) (RtV.mono w (fun h2 w => ?_))
        refine g_iconst dX0_readValue_43 ?_
        exact g_retZ dX0_readValue_44 rfl (Or.inr rfl) w
      · refine g_iconst dX0_readValue_27 ?_
        exact g_retZ dX0_readValue_28 rfl (Or.inl rfl) w
