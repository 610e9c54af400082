theorem e_X3_copyFrom_r {l : Launch} {D : Nat} {ζ : ZP} {h : HI} {Q : HI → Prop} (hn : 144 ≤ ζ.2.2.2.2) (w : Q (hu (hu (hcp h 39 0 9 0 40) 8 1 ((hcp h 39 0 9 0 40) 38 1)) 8 2 ((hcp h 39 0 9 0 40) 38 2))) : RtV l (D + 1) mX3_copyFrom (zz ζ) [aP 8, aP 38] h Q := by
  refine RtV.of 0 pn_X3 [aP 8, aP 38] rfl rfl ?_
  refine g_aload_n dX3_copyFrom_0 rfl ?_
  refine g_getR dX3_copyFrom_1 fl_X3_11 sh_38 (al_38 hn) (fun _ _ _ => rfl) rf_38_0 ?_
  refine g_iconst dX3_copyFrom_4 ?_
  refine g_aload_n dX3_copyFrom_5 rfl ?_
  refine g_getR dX3_copyFrom_6 fl_X3_11 sh_8 (al_8 hn) (fun _ _ _ => rfl) rf_8_0 ?_
  refine g_iconst dX3_copyFrom_9 ?_
  refine g_aload_n dX3_copyFrom_10 rfl ?_
  refine g_getR dX3_copyFrom_11 fl_X3_11 sh_8 (al_8 hn) (fun _ _ _ => rfl) rf_8_0 ?_
  refine g_alen (n := 40) dX3_copyFrom_14 sh_9 (al_9 hn) (by decide) rfl ?_
  refine g_copy dX3_copyFrom_15 cw_X3_15 (Nat.le_of_ble_eq_true rfl) sh_39 (al_39 hn) sh_9 (al_9 hn) (Nat.le_of_ble_eq_true rfl) (Nat.le_of_ble_eq_true rfl) (by decide) ?_
  refine g_aload_n dX3_copyFrom_18 rfl ?_
  refine g_aload_n dX3_copyFrom_19 rfl ?_
  refine g_getI (J := 1) dX3_copyFrom_20 fl_X3_21 sh_38 (al_38 hn) (fun _ _ _ => rfl) rfl ?_
  refine g_putI (J := 1) dX3_copyFrom_23 fl_X3_21 sh_8 (al_8 hn) rfl rfl ?_
  refine g_aload_n dX3_copyFrom_26 rfl ?_
  refine g_aload_n dX3_copyFrom_27 rfl ?_
  refine g_getI (J := 2) dX3_copyFrom_28 fl_X3_25 sh_38 (al_38 hn) (fun _ _ _ => rfl) rfl ?_
  refine g_putI (J := 2) dX3_copyFrom_31 fl_X3_25 sh_8 (al_8 hn) rfl rfl ?_
  exact g_retV dX3_copyFrom_34 rfl w
theorem e_X3_copyFrom_in {l : Launch} {D : Nat} {ζ : ZP} {h : HI} {Q : HI → Prop} {u : Nat} (hn : 144 ≤ ζ.2.2.2.2) (hu0 : isU u) (hun : u + 30 ≤ ζ.2.2.2.2) (w : Q (hu (hu (hcp h (u + 6) 0 9 0 40) 8 1 ((hcp h (u + 6) 0 9 0 40) (u + 5) 1)) 8 2 ((hu (hcp h (u + 6) 0 9 0 40) 8 1 ((hcp h (u + 6) 0 9 0 40) (u + 5) 1)) (u + 5) 2))) : RtV l (D + 1) mX3_copyFrom (zz ζ) [aP 8, aP (u + 5)] h Q := by
  refine RtV.of 0 pn_X3 [aP 8, aP (u + 5)] rfl rfl ?_
  refine g_aload_n dX3_copyFrom_0 rfl ?_
  refine g_getR dX3_copyFrom_1 fl_X3_11 (shu_5 hu0) (alu_5 hun) (fun _ _ _ => rfl) (rfu_5_0 hu0) ?_
  refine g_iconst dX3_copyFrom_4 ?_
  refine g_aload_n dX3_copyFrom_5 rfl ?_
  refine g_getR dX3_copyFrom_6 fl_X3_11 sh_8 (al_8 hn) (fun _ _ _ => rfl) rf_8_0 ?_
  refine g_iconst dX3_copyFrom_9 ?_
  refine g_aload_n dX3_copyFrom_10 rfl ?_
  refine g_getR dX3_copyFrom_11 fl_X3_11 sh_8 (al_8 hn) (fun _ _ _ => rfl) rf_8_0 ?_
  refine g_alen (n := 40) dX3_copyFrom_14 sh_9 (al_9 hn) (by decide) rfl ?_
  refine g_copy dX3_copyFrom_15 cw_X3_15 (Nat.le_of_ble_eq_true rfl) (shu_6 hu0) (alu_6 hun) sh_9 (al_9 hn) (Nat.le_of_ble_eq_true rfl) (Nat.le_of_ble_eq_true rfl) (by decide) ?_
  refine g_aload_n dX3_copyFrom_18 rfl ?_
  refine g_aload_n dX3_copyFrom_19 rfl ?_
  refine g_getI (J := 1) dX3_copyFrom_20 fl_X3_21 (shu_5 hu0) (alu_5 hun) (fun _ _ _ => rfl) rfl ?_
  refine g_putI (J := 1) dX3_copyFrom_23 fl_X3_21 sh_8 (al_8 hn) rfl rfl ?_
  refine g_aload_n dX3_copyFrom_26 rfl ?_
  refine g_aload_n dX3_copyFrom_27 rfl ?_
  refine g_getI (J := 2) dX3_copyFrom_28 fl_X3_25 (shu_5 hu0) (alu_5 hun) (fun _ _ _ => rfl) rfl ?_
  refine g_putI (J := 2) dX3_copyFrom_31 fl_X3_25 sh_8 (al_8 hn) rfl rfl ?_
  exact g_retV dX3_copyFrom_34 rfl w
theorem e_X3_copyFrom_out {l : Launch} {D : Nat} {ζ : ZP} {h : HI} {Q : HI → Prop} {u : Nat} (hn : 144 ≤ ζ.2.2.2.2) (hu0 : isU u) (hun : u + 30 ≤ ζ.2.2.2.2) (w : Q (hu (hu (hcp h 9 0 (u + 6) 0 40) (u + 5) 1 ((hcp h 9 0 (u + 6) 0 40) 8 1)) (u + 5) 2 ((hu (hcp h 9 0 (u + 6) 0 40) (u + 5) 1 ((hcp h 9 0 (u + 6) 0 40) 8 1)) 8 2))) : RtV l (D + 1) mX3_copyFrom (zz ζ) [aP (u + 5), aP 8] h Q := by
  refine RtV.of 0 pn_X3 [aP (u + 5), aP 8] rfl rfl ?_
  refine g_aload_n dX3_copyFrom_0 rfl ?_
  refine g_getR dX3_copyFrom_1 fl_X3_11 sh_8 (al_8 hn) (fun _ _ _ => rfl) rf_8_0 ?_
  refine g_iconst dX3_copyFrom_4 ?_
  refine g_aload_n dX3_copyFrom_5 rfl ?_
  refine g_getR dX3_copyFrom_6 fl_X3_11 (shu_5 hu0) (alu_5 hun) (fun _ _ _ => rfl) (rfu_5_0 hu0) ?_
  refine g_iconst dX3_copyFrom_9 ?_
  refine g_aload_n dX3_copyFrom_10 rfl ?_
  refine g_getR dX3_copyFrom_11 fl_X3_11 (shu_5 hu0) (alu_5 hun) (fun _ _ _ => rfl) (rfu_5_0 hu0) ?_
  refine g_alen (n := 40) dX3_copyFrom_14 (shu_6 hu0) (alu_6 hun) (by decide) rfl ?_
  refine g_copy dX3_copyFrom_15 cw_X3_15 (Nat.le_of_ble_eq_true rfl) sh_9 (al_9 hn) (shu_6 hu0) (alu_6 hun) (Nat.le_of_ble_eq_true rfl) (Nat.le_of_ble_eq_true rfl) (by decide) ?_
  refine g_aload_n dX3_copyFrom_18 rfl ?_
  refine g_aload_n dX3_copyFrom_19 rfl ?_
  refine g_getI (J := 1) dX3_copyFrom_20 fl_X3_21 sh_8 (al_8 hn) (fun _ _ _ => rfl) rfl ?_
  refine g_putI (J := 1) dX3_copyFrom_23 fl_X3_21 (shu_5 hu0) (alu_5 hun) rfl rfl ?_
  refine g_aload_n dX3_copyFrom_26 rfl ?_
  refine g_aload_n dX3_copyFrom_27 rfl ?_
  refine g_getI (J := 2) dX3_copyFrom_28 fl_X3_25 sh_8 (al_8 hn) (fun _ _ _ => rfl) rfl ?_
  refine g_putI (J := 2) dX3_copyFrom_31 fl_X3_25 (shu_5 hu0) (alu_5 hun) rfl rfl ?_
  exact g_retV dX3_copyFrom_34 rfl w
theorem e_X3_readFrom {l : Launch} {D : Nat} {ζ : ZP} {h : HI} {Q : Int → HI → Prop} (hn : 144 ≤ ζ.2.2.2.2) (w : RtV l D mX7_begin (zz ζ) [aP 1, aI 200] (hu (hu h 38 1 0) 38 2 0) (fun h1 => RtI l D mX3_readCond (zz ζ) [aP 38, aP 1, aP 4, aI 1] h1 (fun r2 h2 => (rg r2) ∧ (if ¬ r2 = 0 then ((rg (h2 1 4)) ∧ (if (h2 1 4) = 0 then (Q 1 h2) else (RtI l D mX7_refuse (zz ζ) [aP 1, aI 1] h2 (fun r3 h3 => (rg r3) ∧ (if r3 = 0 then (Q 0 h3) else (Q 1 h3)))))) else (Q 0 h2))))) : RtI l (D + 1) mX3_readFrom (zz ζ) [aP 38, aP 1, aP 4] h Q := by
  refine RtI.of 0 pn_X3 [aP 38, aP 1, aP 4] rfl rfl ?_
  refine g_aload_n dX3_readFrom_0 rfl ?_
  refine g_iconst dX3_readFrom_1 ?_
  refine g_putI (J := 1) dX3_readFrom_2 fl_X3_21 sh_38 (al_38 hn) rfl rfl ?_
  refine g_aload_n dX3_readFrom_5 rfl ?_
  refine g_iconst dX3_readFrom_6 ?_
  refine g_putI (J := 2) dX3_readFrom_7 fl_X3_25 sh_38 (al_38 hn) rfl rfl ?_
  refine g_aload_n dX3_readFrom_10 rfl ?_
  refine g_sipush dX3_readFrom_11 rfl ?_
  refine g_callVV (n := 1) (As := [aI 200]) (st := []) dX3_readFrom_14 ml_X3_28 sh_1 rfl (al_1 hn) rfl rfl (Nat.le_of_ble_eq_true rfl) (RtV.mono w (fun h1 w => ?_))
  refine g_aload_n dX3_readFrom_17 rfl ?_
  refine g_aload_n dX3_readFrom_18 rfl ?_
  refine g_aload_n dX3_readFrom_19 rfl ?_
  refine g_iconst dX3_readFrom_20 ?_
  refine g_callVI (n := 3) (As := [aP 1, aP 4, aI 1]) (st := []) dX3_readFrom_21 ml_X3_34 sh_38 rfl (al_38 hn) rfl rfl (Nat.le_of_ble_eq_true rfl) (RtI.mono w (fun r2 h2 w => ?_))
  obtain ⟨o1, w⟩ := w
  refine g_if_ne (tgt := 29) dX3_readFrom_24 rfl o1 ?_
  refine ite_imp (fun w => ?_) (fun w => ?_) w
  · refine g_aload_n dX3_readFrom_29 rfl ?_
    refine g_getI (J := 4) dX3_readFrom_30 fl_X3_38 sh_1 (al_1 hn) (fun _ _ _ => rfl) rfl ?_
    obtain ⟨o2, w⟩ := w
    refine g_if_eq (tgt := 44) dX3_readFrom_33 rfl o2 ?_
    refine ite_imp (fun w => ?_) (fun w => ?_) w
    · refine g_iconst dX3_readFrom_44 ?_
      refine g_goto (tgt := 49) dX3_readFrom_45 rfl ?_
      exact g_retZ dX3_readFrom_49 rfl (Or.inr rfl) w
    · refine g_aload_n dX3_readFrom_36 rfl ?_
      refine g_iconst dX3_readFrom_37 ?_
      refine g_callVI (n := 1) (As := [aI 1]) (st := []) dX3_readFrom_38 ml_X3_41 sh_1 rfl (al_1 hn) rfl rfl (Nat.le_of_ble_eq_true rfl) (RtI.mono w (fun r3 h3 w => ?_))
      obtain ⟨o3, w⟩ := w
      refine g_if_eq (tgt := 48) dX3_readFrom_41 rfl o3 ?_
      refine ite_imp (fun w => ?_) (fun w => ?_) w
      · refine g_iconst dX3_readFrom_48 ?_
        exact g_retZ dX3_readFrom_49 rfl (Or.inl rfl) w
      · refine g_iconst dX3_readFrom_44 ?_
        refine g_goto (tgt := 49) dX3_readFrom_45 rfl ?_
        exact g_retZ dX3_readFrom_49 rfl (Or.inr rfl) w
  · refine g_iconst dX3_readFrom_27 ?_
    exact g_retZ dX3_readFrom_28 rfl (Or.inl rfl) w
theorem b_X3_readCond_17 {l : Launch} {D : Nat} {ζ : ZP} {h : HI} {Q : Int → HI → Prop} {x3 x4 : Int} (hn : 144 ≤ ζ.2.2.2.2) (w : (rg x4) ∧ (if x4 ≤ 0 then (Q 1 h) else ((rg (h 1 7)) ∧ (if ¬ (h 1 7) = 10 then (Q 1 h) else (RtV l D mX7_step (zz ζ) [aP 1] h (fun h1 => RtI l D mX3_readAll (zz ζ) [aP 38, aP 1, aP 4, aI x3] h1 (fun r2 h2 => (rg r2) ∧ (if r2 = 0 then (Q 0 h2) else (RtI l D mX3_addStep (zz ζ) [aP 38, aI 10] h2 (fun r3 h3 => (rg r3) ∧ (if ¬ r3 = 0 then (G l (D + 1) 0 0 mX3_readCond (zz ζ) 17 [aP 38, aP 1, aP 4, aI x3, aI (x4 + (-1))] [] h3 (qI (zz ζ) Q)) else (Q 0 h3)))))))))))) : G l (D + 1) 0 0 mX3_readCond (zz ζ) 17 [aP 38, aP 1, aP 4, aI x3, aI x4] [] h (qI (zz ζ) Q) := by
  refine g_iload dX3_readCond_17 rfl ?_
  obtain ⟨o1, w⟩ := w
  refine g_if_le (tgt := 62) dX3_readCond_19 rfl o1 ?_
  refine ite_imp (fun w => ?_) (fun w => ?_) w
  · refine g_iconst dX3_readCond_62 ?_
    exact g_retZ dX3_readCond_63 rfl (Or.inr rfl) w
  · refine g_aload_n dX3_readCond_22 rfl ?_
    refine g_getI (J := 7) dX3_readCond_23 fl_X3_48 sh_1 (al_1 hn) (fun _ _ _ => rfl) rfl ?_
    refine g_bipush dX3_readCond_26 rfl ?_
    obtain ⟨o2, w⟩ := w
    refine g_cmp_ne (tgt := 62) dX3_readCond_28 rfl o2 (by decide) ?_
    refine ite_imp (fun w => ?_) (fun w => ?_) w
    · refine g_iconst dX3_readCond_62 ?_
      exact g_retZ dX3_readCond_63 rfl (Or.inr rfl) w
    · refine g_aload_n dX3_readCond_31 rfl ?_
      refine g_callVV (n := 0) (As := []) (st := []) dX3_readCond_32 ml_X3_51 sh_1 rfl (al_1 hn) rfl rfl (Nat.le_of_ble_eq_true rfl) (RtV.mono w (fun h1 w => ?_))
      refine g_aload_n dX3_readCond_35 rfl ?_
      refine g_aload_n dX3_readCond_36 rfl ?_
      refine g_aload_n dX3_readCond_37 rfl ?_
      refine g_iload_n dX3_readCond_38 rfl ?_
      refine g_callVI (n := 3) (As := [aP 1, aP 4, aI x3]) (st := []) dX3_readCond_39 ml_X3_45 sh_38 rfl (al_38 hn) rfl rfl (Nat.le_of_ble_eq_true rfl) (RtI.mono w (fun r2 h2 w => ?_))
      obtain ⟨o3, w⟩ := w
      refine g_if_eq (tgt := 54) dX3_readCond_42 rfl o3 ?_
      refine ite_imp (fun w => ?_) (fun w => ?_) w
      · refine g_iconst dX3_readCond_54 ?_
        exact g_retZ dX3_readCond_55 rfl (Or.inl rfl) w
      · refine g_aload_n dX3_readCond_45 rfl ?_
        refine g_bipush dX3_readCond_46 rfl ?_
        refine g_callVI (n := 1) (As := [aI 10]) (st := []) dX3_readCond_48 ml_X3_54 sh_38 rfl (al_38 hn) rfl rfl (Nat.le_of_ble_eq_true rfl) (RtI.mono w (fun r3 h3 w => ?_))
        obtain ⟨o4, w⟩ := w
        refine g_if_ne (tgt := 56) dX3_readCond_51 rfl o4 ?_
        refine ite_imp (fun w => ?_) (fun w => ?_) w
        · refine g_iinc (ls' := [aP 38, aP 1, aP 4, aI x3, aI (x4 + (-1))]) dX3_readCond_56 rfl (Nat.le_of_ble_eq_true rfl) rfl rfl ?_
          refine g_goto (tgt := 17) dX3_readCond_59 rfl ?_
          exact g_sub (ls' := [aP 38, aP 1, aP 4, aI x3, aI (x4 + (-1))]) ⟨Or.inr rfl, Or.inr rfl, Or.inr rfl, Or.inr rfl, Or.inr rfl, trivial⟩ w
        · refine g_iconst dX3_readCond_54 ?_
          exact g_retZ dX3_readCond_55 rfl (Or.inl rfl) w
theorem e_X3_readCond {l : Launch} {D : Nat} {ζ : ZP} {h : HI} {Q : Int → HI → Prop} {x3 : Int} (hn : 144 ≤ ζ.2.2.2.2) (w : RtI l D mX3_readAll (zz ζ) [aP 38, aP 1, aP 4, aI x3] h (fun r1 h1 => (rg r1) ∧ (if ¬ r1 = 0 then (G l (D + 1) 0 0 mX3_readCond (zz ζ) 17 [aP 38, aP 1, aP 4, aI x3, aI 540] [] h1 (qI (zz ζ) Q)) else (Q 0 h1)))) : RtI l (D + 1) mX3_readCond (zz ζ) [aP 38, aP 1, aP 4, aI x3] h Q := by
  refine RtI.of 1 pn_X3 [aP 38, aP 1, aP 4, aI x3, aU] rfl rfl ?_
  refine g_aload_n dX3_readCond_0 rfl ?_
  refine g_aload_n dX3_readCond_1 rfl ?_
  refine g_aload_n dX3_readCond_2 rfl ?_
  refine g_iload_n dX3_readCond_3 rfl ?_
  refine g_callVI (n := 3) (As := [aP 1, aP 4, aI x3]) (st := []) dX3_readCond_4 ml_X3_45 sh_38 rfl (al_38 hn) rfl rfl (Nat.le_of_ble_eq_true rfl) (RtI.mono w (fun r1 h1 w => ?_))
  obtain ⟨o1, w⟩ := w
  refine g_if_ne (tgt := 12) dX3_readCond_7 rfl o1 ?_
  refine ite_imp (fun w => ?_) (fun w => ?_) w
  · refine g_sipush dX3_readCond_12 rfl ?_
    refine g_istore (ls' := [aP 38, aP 1, aP 4, aI x3, aI 540]) dX3_readCond_15 (Nat.le_of_ble_eq_true rfl) rfl rfl ?_
    exact g_sub (ls' := [aP 38, aP 1, aP 4, aI x3, aI 540]) ⟨Or.inr rfl, Or.inr rfl, Or.inr rfl, Or.inr rfl, Or.inr rfl, trivial⟩ w
  · refine g_iconst dX3_readCond_10 ?_
    exact g_retZ dX3_readCond_11 rfl (Or.inl rfl) w
theorem b_X3_readAll_17 {l : Launch} {D : Nat} {ζ : ZP} {h : HI} {Q : Int → HI → Prop} {x3 x4 : Int} (hn : 144 ≤ ζ.2.2.2.2) (w : (rg x4) ∧ (if x4 ≤ 0 then (Q 1 h) else ((rg (h 1 7)) ∧ (if ¬ (h 1 7) = 11 then (Q 1 h) else (RtV l D mX7_step (zz ζ) [aP 1] h (fun h1 => RtI l D mX3_readOne (zz ζ) [aP 38, aP 1, aP 4, aI x3] h1 (fun r2 h2 => (rg r2) ∧ (if r2 = 0 then (Q 0 h2) else (RtI l D mX3_addStep (zz ζ) [aP 38, aI 11] h2 (fun r3 h3 => (rg r3) ∧ (if ¬ r3 = 0 then (G l (D + 1) 0 0 mX3_readAll (zz ζ) 17 [aP 38, aP 1, aP 4, aI x3, aI (x4 + (-1))] [] h3 (qI (zz ζ) Q)) else (Q 0 h3)))))))))))) : G l (D + 1) 0 0 mX3_readAll (zz ζ) 17 [aP 38, aP 1, aP 4, aI x3, aI x4] [] h (qI (zz ζ) Q) := by
  refine g_iload dX3_readAll_17 rfl ?_
  obtain ⟨o1, w⟩ := w
  refine g_if_le (tgt := 62) dX3_readAll_19 rfl o1 ?_
  refine ite_imp (fun w => ?_) (fun w => ?_) w
  · refine g_iconst dX3_readAll_62 ?_
    exact g_retZ dX3_readAll_63 rfl (Or.inr rfl) w
  · refine g_aload_n dX3_readAll_22 rfl ?_
    refine g_getI (J := 7) dX3_readAll_23 fl_X3_48 sh_1 (al_1 hn) (fun _ _ _ => rfl) rfl ?_
    refine g_bipush dX3_readAll_26 rfl ?_
    obtain ⟨o2, w⟩ := w
    refine g_cmp_ne (tgt := 62) dX3_readAll_28 rfl o2 (by decide) ?_
    refine ite_imp (fun w => ?_) (fun w => ?_) w
    · refine g_iconst dX3_readAll_62 ?_
      exact g_retZ dX3_readAll_63 rfl (Or.inr rfl) w
    · refine g_aload_n dX3_readAll_31 rfl ?_
      refine g_callVV (n := 0) (As := []) (st := []) dX3_readAll_32 ml_X3_51 sh_1 rfl (al_1 hn) rfl rfl (Nat.le_of_ble_eq_true rfl) (RtV.mono w (fun h1 w => ?_))
      refine g_aload_n dX3_readAll_35 rfl ?_
      refine g_aload_n dX3_readAll_36 rfl ?_
      refine g_aload_n dX3_readAll_37 rfl ?_
      refine g_iload_n dX3_readAll_38 rfl ?_
      refine g_callVI (n := 3) (As := [aP 1, aP 4, aI x3]) (st := []) dX3_readAll_39 ml_X3_57 sh_38 rfl (al_38 hn) rfl rfl (Nat.le_of_ble_eq_true rfl) (RtI.mono w (fun r2 h2 w => ?_))
      obtain ⟨o3, w⟩ := w
      refine g_if_eq (tgt := 54) dX3_readAll_42 rfl o3 ?_
      refine ite_imp (fun w => ?_) (fun w => ?_) w
      · refine g_iconst dX3_readAll_54 ?_
        exact g_retZ dX3_readAll_55 rfl (Or.inl rfl) w
      · refine g_aload_n dX3_readAll_45 rfl ?_
        refine g_bipush dX3_readAll_46 rfl ?_
        refine g_callVI (n := 1) (As := [aI 11]) (st := []) dX3_readAll_48 ml_X3_54 sh_38 rfl (al_38 hn) rfl rfl (Nat.le_of_ble_eq_true rfl) (RtI.mono w (fun r3 h3 w => ?_))
        obtain ⟨o4, w⟩ := w
        refine g_if_ne (tgt := 56) dX3_readAll_51 rfl o4 ?_
        refine ite_imp (fun w => ?_) (fun w => ?_) w
        · refine g_iinc (ls' := [aP 38, aP 1, aP 4, aI x3, aI (x4 + (-1))]) dX3_readAll_56 rfl (Nat.le_of_ble_eq_true rfl) rfl rfl ?_
          refine g_goto (tgt := 17) dX3_readAll_59 rfl ?_
          exact g_sub (ls' := [aP 38, aP 1, aP 4, aI x3, aI (x4 + (-1))]) ⟨Or.inr rfl, Or.inr rfl, Or.inr rfl, Or.inr rfl, Or.inr rfl, trivial⟩ w
        · refine g_iconst dX3_readAll_54 ?_
          exact g_retZ dX3_readAll_55 rfl (Or.inl rfl) w
theorem e_X3_readAll {l : Launch} {D : Nat} {ζ : ZP} {h : HI} {Q : Int → HI → Prop} {x3 : Int} (hn : 144 ≤ ζ.2.2.2.2) (w : RtI l D mX3_readOne (zz ζ) [aP 38, aP 1, aP 4, aI x3] h (fun r1 h1 => (rg r1) ∧ (if ¬ r1 = 0 then (G l (D + 1) 0 0 mX3_readAll (zz ζ) 17 [aP 38, aP 1, aP 4, aI x3, aI 540] [] h1 (qI (zz ζ) Q)) else (Q 0 h1)))) : RtI l (D + 1) mX3_readAll (zz ζ) [aP 38, aP 1, aP 4, aI x3] h Q := by
  refine RtI.of 1 pn_X3 [aP 38, aP 1, aP 4, aI x3, aU] rfl rfl ?_
  refine g_aload_n dX3_readAll_0 rfl ?_
  refine g_aload_n dX3_readAll_1 rfl ?_
  refine g_aload_n dX3_readAll_2 rfl ?_
  refine g_iload_n dX3_readAll_3 rfl ?_
  refine g_callVI (n := 3) (As := [aP 1, aP 4, aI x3]) (st := []) dX3_readAll_4 ml_X3_57 sh_38 rfl (al_38 hn) rfl rfl (Nat.le_of_ble_eq_true rfl) (RtI.mono w (fun r1 h1 w => ?_))
  obtain ⟨o1, w⟩ := w
  refine g_if_ne (tgt := 12) dX3_readAll_7 rfl o1 ?_
  refine ite_imp (fun w => ?_) (fun w => ?_) w
  · refine g_sipush dX3_readAll_12 rfl ?_
    refine g_istore (ls' := [aP 38, aP 1, aP 4, aI x3, aI 540]) dX3_readAll_15 (Nat.le_of_ble_eq_true rfl) rfl rfl ?_
    exact g_sub (ls' := [aP 38, aP 1, aP 4, aI x3, aI 540]) ⟨Or.inr rfl, Or.inr rfl, Or.inr rfl, Or.inr rfl, Or.inr rfl, trivial⟩ w
  · refine g_iconst dX3_readAll_10 ?_
    exact g_retZ dX3_readAll_11 rfl (Or.inl rfl) w
theorem b_X3_readOne_47 {l : Launch} {D : Nat} {ζ : ZP} {h : HI} {Q : Int → HI → Prop} {x3 x4 x5 : Int} (hn : 144 ≤ ζ.2.2.2.2) (w : (rg (h 38 2)) ∧ (if 20 ≤ (h 38 2) then (RtI l D mX7_refuse (zz ζ) [aP 1, aI 4] h (fun r1 h1 => (r1 = 0 ∨ r1 = 1) ∧ Q r1 h1)) else ((rg x3) ∧ (if x3 ≤ 8 then (RtV l D mX7_step (zz ζ) [aP 1] (hu h 38 2 ((h 38 2) + 1)) (fun h2 => (rg x4) ∧ (if x4 = 0 then ((rg x5) ∧ (if ¬ x5 = 12 then (if ¬ x5 = 13 then (if 15 < x5 then (RtI l D mX3_readSize (zz ζ) [aP 38, aP 1, aI x5] h2 (fun r3 h3 => (r3 = 0 ∨ r3 = 1) ∧ Q r3 h3)) else (RtI l D mX3_addStep (zz ζ) [aP 38, aI x5] h2 (fun r4 h4 => (r4 = 0 ∨ r4 = 1) ∧ Q r4 h4))) else (RtI l D mX3_readBox (zz ζ) [aP 38, aP 1, aP 4] h2 (fun r5 h5 => (r5 = 0 ∨ r5 = 1) ∧ Q r5 h5))) else (RtI l D mX3_readOne (zz ζ) [aP 38, aP 1, aP 4, aI (x3 + 1)] h2 (fun r6 h6 => (rg r6) ∧ (if r6 = 0 then (Q 0 h6) else (RtI l D mX3_addStep (zz ζ) [aP 38, aI 12] h6 (fun r7 h7 => (rg r7) ∧ (if r7 = 0 then (Q 0 h7) else (Q 1 h7))))))))) else (RtI l D mX3_readCond (zz ζ) [aP 38, aP 1, aP 4, aI (x3 + 1)] h2 (fun r8 h8 => (rg r8) ∧ (if r8 = 0 then (Q 0 h8) else (RtI l D mX7_takeSign (zz ζ) [aP 1, aI 41] h8 (fun r9 h9 => (rg r9) ∧ (if r9 = 0 then (Q 0 h9) else (Q 1 h9)))))))))) else (RtI l D mX7_refuse (zz ζ) [aP 1, aI 4] h (fun r10 h10 => (r10 = 0 ∨ r10 = 1) ∧ Q r10 h10)))))) : G l (D + 1) 0 0 mX3_readOne (zz ζ) 47 [aP 38, aP 1, aP 4, aI x3, aI x4, aI x5] [] h (qI (zz ζ) Q) := by
  refine g_aload_n dX3_readOne_47 rfl ?_
  refine g_getI (J := 2) dX3_readOne_48 fl_X3_25 sh_38 (al_38 hn) (fun _ _ _ => rfl) rfl ?_
  refine g_bipush dX3_readOne_51 rfl ?_
  obtain ⟨o1, w⟩ := w
  refine g_cmp_ge (tgt := 62) dX3_readOne_53 rfl o1 (by decide) ?_
  refine ite_imp (fun w => ?_) (fun w => ?_) w
  · refine g_aload_n dX3_readOne_62 rfl ?_
    refine g_iconst dX3_readOne_63 ?_
    refine g_callVI (n := 1) (As := [aI 4]) (st := []) dX3_readOne_64 ml_X3_41 sh_1 rfl (al_1 hn) rfl rfl (Nat.le_of_ble_eq_true rfl) (RtI.mono w (fun r1 h1 w => ?_))
    obtain ⟨o2, w⟩ := w
    exact g_retZ dX3_readOne_67 rfl o2 w
  · refine g_iload_n dX3_readOne_56 rfl ?_
    refine g_bipush dX3_readOne_57 rfl ?_
    obtain ⟨o3, w⟩ := w
    refine g_cmp_le (tgt := 68) dX3_readOne_59 rfl o3 (by decide) ?_
    refine ite_imp (fun w => ?_) (fun w => ?_) w
    · refine g_aload_n dX3_readOne_68 rfl ?_
      refine g_dup dX3_readOne_69 rfl ?_
      refine g_getI (J := 2) dX3_readOne_70 fl_X3_25 sh_38 (al_38 hn) (fun _ _ _ => rfl) rfl ?_
      refine g_iconst dX3_readOne_73 ?_
      refine g_iadd dX3_readOne_74 ?_
      refine g_putI (J := 2) dX3_readOne_75 fl_X3_25 sh_38 (al_38 hn) rfl rfl ?_
      refine g_aload_n dX3_readOne_78 rfl ?_
      refine g_callVV (n := 0) (As := []) (st := []) dX3_readOne_79 ml_X3_51 sh_1 rfl (al_1 hn) rfl rfl (Nat.le_of_ble_eq_true rfl) (RtV.mono w (fun h2 w => ?_))
      refine g_iload dX3_readOne_82 rfl ?_
      obtain ⟨o4, w⟩ := w
      refine g_if_eq (tgt := 114) dX3_readOne_84 rfl o4 ?_
      refine ite_imp (fun w => ?_) (fun w => ?_) w
      · refine g_iload dX3_readOne_114 rfl ?_
        refine g_bipush dX3_readOne_116 rfl ?_
        obtain ⟨o5, w⟩ := w
        refine g_cmp_ne (tgt := 148) dX3_readOne_118 rfl o5 (by decide) ?_
        refine ite_imp (fun w => ?_) (fun w => ?_) w
        · refine g_iload dX3_readOne_148 rfl ?_
          refine g_bipush dX3_readOne_150 rfl ?_
          refine g_cmp_ne (tgt := 162) dX3_readOne_152 rfl o5 (by decide) ?_
          refine ite_imp (fun w => ?_) (fun w => ?_) w
          · refine g_iload dX3_readOne_162 rfl ?_
            refine g_bipush dX3_readOne_164 rfl ?_
            refine g_cmp_gt (tgt := 178) dX3_readOne_166 rfl o5 (by decide) ?_
            refine ite_imp (fun w => ?_) (fun w => ?_) w
            · refine g_aload_n dX3_readOne_178 rfl ?_
              refine g_aload_n dX3_readOne_179 rfl ?_
              refine g_iload dX3_readOne_180 rfl ?_
              refine g_callVI (n := 2) (As := [aP 1, aI x5]) (st := []) dX3_readOne_182 ml_X3_67 sh_38 rfl (al_38 hn) rfl rfl (Nat.le_of_ble_eq_true rfl) (RtI.mono w (fun r3 h3 w => ?_))
              obtain ⟨o6, w⟩ := w
              exact g_retZ dX3_readOne_185 rfl o6 w
            · refine g_aload_n dX3_readOne_169 rfl ?_
              refine g_iload dX3_readOne_170 rfl ?_
              refine g_callVI (n := 1) (As := [aI x5]) (st := []) dX3_readOne_172 ml_X3_54 sh_38 rfl (al_38 hn) rfl rfl (Nat.le_of_ble_eq_true rfl) (RtI.mono w (fun r4 h4 w => ?_))
              refine g_goto (tgt := 185) dX3_readOne_175 rfl ?_
              obtain ⟨o7, w⟩ := w
              exact g_retZ dX3_readOne_185 rfl o7 w
          · refine g_aload_n dX3_readOne_155 rfl ?_
            refine g_aload_n dX3_readOne_156 rfl ?_
            refine g_aload_n dX3_readOne_157 rfl ?_
            refine g_callVI (n := 2) (As := [aP 1, aP 4]) (st := []) dX3_readOne_158 ml_X3_63 sh_38 rfl (al_38 hn) rfl rfl (Nat.le_of_ble_eq_true rfl) (RtI.mono w (fun r5 h5 w => ?_))
            obtain ⟨o8, w⟩ := w
            exact g_retZ dX3_readOne_161 rfl o8 w
        · refine g_aload_n dX3_readOne_121 rfl ?_
          refine g_aload_n dX3_readOne_122 rfl ?_
          refine g_aload_n dX3_readOne_123 rfl ?_
          refine g_iload_n dX3_readOne_124 rfl ?_
          refine g_iconst dX3_readOne_125 ?_
          refine g_iadd dX3_readOne_126 ?_
          refine g_callVI (n := 3) (As := [aP 1, aP 4, aI (x3 + 1)]) (st := []) dX3_readOne_127 ml_X3_57 sh_38 rfl (al_38 hn) rfl rfl (Nat.le_of_ble_eq_true rfl) (RtI.mono w (fun r6 h6 w => ?_))
          obtain ⟨o9, w⟩ := w
          refine g_if_eq (tgt := 146) dX3_readOne_130 rfl o9 ?_
          refine ite_imp (fun w => ?_) (fun w => ?_) w
          · refine g_iconst dX3_readOne_146 ?_
            exact g_retZ dX3_readOne_147 rfl (Or.inl rfl) w
          · refine g_aload_n dX3_readOne_133 rfl ?_
            refine g_bipush dX3_readOne_134 rfl ?_
            refine g_callVI (n := 1) (As := [aI 12]) (st := []) dX3_readOne_136 ml_X3_54 sh_38 rfl (al_38 hn) rfl rfl (Nat.le_of_ble_eq_true rfl) (RtI.mono w (fun r7 h7 w => ?_))
            obtain ⟨o10, w⟩ := w
            refine g_if_eq (tgt := 146) dX3_readOne_139 rfl o10 ?_
            refine ite_imp (fun w => ?_) (fun w => ?_) w
            · refine g_iconst dX3_readOne_146 ?_
              exact g_retZ dX3_readOne_147 rfl (Or.inl rfl) w
            · refine g_iconst dX3_readOne_142 ?_
              refine g_goto (tgt := 147) dX3_readOne_143 rfl ?_
              exact g_retZ dX3_readOne_147 rfl (Or.inr rfl) w
      · refine g_aload_n dX3_readOne_87 rfl ?_
        refine g_aload_n dX3_readOne_88 rfl ?_
        refine g_aload_n dX3_readOne_89 rfl ?_
        refine g_iload_n dX3_readOne_90 rfl ?_
        refine g_iconst dX3_readOne_91 ?_
        refine g_iadd dX3_readOne_92 ?_
        refine g_callVI (n := 3) (As := [aP 1, aP 4, aI (x3 + 1)]) (st := []) dX3_readOne_93 ml_X3_34 sh_38 rfl (al_38 hn) rfl rfl (Nat.le_of_ble_eq_true rfl) (RtI.mono w (fun r8 h8 w => ?_))
        obtain ⟨o11, w⟩ := w
        refine g_if_eq (tgt := 112) dX3_readOne_96 rfl o11 ?_
        refine ite_imp (fun w => ?_) (fun w => ?_) w
        · refine g_iconst dX3_readOne_112 ?_
          exact g_retZ dX3_readOne_113 rfl (Or.inl rfl) w
        · refine g_aload_n dX3_readOne_99 rfl ?_
          refine g_bipush dX3_readOne_100 rfl ?_
          refine g_callVI (n := 1) (As := [aI 41]) (st := []) dX3_readOne_102 ml_X3_60 sh_1 rfl (al_1 hn) rfl rfl (Nat.le_of_ble_eq_true rfl) (RtI.mono w (fun r9 h9 w => ?_))
          obtain ⟨o12, w⟩ := w
          refine g_if_eq (tgt := 112) dX3_readOne_105 rfl o12 ?_
          refine ite_imp (fun w => ?_) (fun w => ?_) w
          · refine g_iconst dX3_readOne_112 ?_
            exact g_retZ dX3_readOne_113 rfl (Or.inl rfl) w
          · refine g_iconst dX3_readOne_108 ?_
            refine g_goto (tgt := 113) dX3_readOne_109 rfl ?_
            exact g_retZ dX3_readOne_113 rfl (Or.inr rfl) w
    · refine g_aload_n dX3_readOne_62 rfl ?_
      refine g_iconst dX3_readOne_63 ?_
      refine g_callVI (n := 1) (As := [aI 4]) (st := []) dX3_readOne_64 ml_X3_41 sh_1 rfl (al_1 hn) rfl rfl (Nat.le_of_ble_eq_true rfl) (RtI.mono w (fun r10 h10 w => ?_))
      obtain ⟨o13, w⟩ := w
      exact g_retZ dX3_readOne_67 rfl o13 w
theorem e_X3_readOne {l : Launch} {D : Nat} {ζ : ZP} {h : HI} {Q : Int → HI → Prop} {x3 : Int} (hn : 144 ≤ ζ.2.2.2.2) (w : (rg (h 1 4)) ∧ (if ¬ (h 1 4) = 40 then ((rg (h 1 7)) ∧ (if (h 1 7) < 12 then (RtI l D mX7_refuse (zz ζ) [aP 1, aI 1] h (fun r1 h1 => (r1 = 0 ∨ r1 = 1) ∧ Q r1 h1)) else (if (h 1 7) ≤ 19 then (G l (D + 1) 0 0 mX3_readOne (zz ζ) 47 [aP 38, aP 1, aP 4, aI x3, aI 0, aI (h 1 7)] [] h (qI (zz ζ) Q)) else (RtI l D mX7_refuse (zz ζ) [aP 1, aI 1] h (fun r2 h2 => (r2 = 0 ∨ r2 = 1) ∧ Q r2 h2))))) else (G l (D + 1) 0 0 mX3_readOne (zz ζ) 47 [aP 38, aP 1, aP 4, aI x3, aI 1, aI (h 1 7)] [] h (qI (zz ζ) Q)))) : RtI l (D + 1) mX3_readOne (zz ζ) [aP 38, aP 1, aP 4, aI x3] h Q := by
  refine RtI.of 2 pn_X3 [aP 38, aP 1, aP 4, aI x3, aU, aU] rfl rfl ?_
  refine g_aload_n dX3_readOne_0 rfl ?_
  refine g_getI (J := 4) dX3_readOne_1 fl_X3_38 sh_1 (al_1 hn) (fun _ _ _ => rfl) rfl ?_
  refine g_bipush dX3_readOne_4 rfl ?_
  obtain ⟨o1, w⟩ := w
  refine g_cmp_ne (tgt := 13) dX3_readOne_6 rfl o1 (by decide) ?_
  refine ite_imp (fun w => ?_) (fun w => ?_) w
  · refine g_iconst dX3_readOne_13 ?_
    refine g_istore (ls' := [aP 38, aP 1, aP 4, aI x3, aI 0, aU]) dX3_readOne_14 (Nat.le_of_ble_eq_true rfl) rfl rfl ?_
    refine g_aload_n dX3_readOne_16 rfl ?_
    refine g_getI (J := 7) dX3_readOne_17 fl_X3_48 sh_1 (al_1 hn) (fun _ _ _ => rfl) rfl ?_
    refine g_istore (ls' := [aP 38, aP 1, aP 4, aI x3, aI 0, aI (h 1 7)]) dX3_readOne_20 (Nat.le_of_ble_eq_true rfl) rfl rfl ?_
    refine g_iload dX3_readOne_22 rfl ?_
    refine g_if_ne (tgt := 47) dX3_readOne_24 rfl (by decide) ?_
    rw [if_neg (by decide)]
    refine g_iload dX3_readOne_27 rfl ?_
    refine g_bipush dX3_readOne_29 rfl ?_
    obtain ⟨o2, w⟩ := w
    refine g_cmp_lt (tgt := 41) dX3_readOne_31 rfl o2 (by decide) ?_
    refine ite_imp (fun w => ?_) (fun w => ?_) w
    · refine g_aload_n dX3_readOne_41 rfl ?_
      refine g_iconst dX3_readOne_42 ?_
      refine g_callVI (n := 1) (As := [aI 1]) (st := []) dX3_readOne_43 ml_X3_41 sh_1 rfl (al_1 hn) rfl rfl (Nat.le_of_ble_eq_true rfl) (RtI.mono w (fun r1 h1 w => ?_))
      obtain ⟨o3, w⟩ := w
      exact g_retZ dX3_readOne_46 rfl o3 w
    · refine g_iload dX3_readOne_34 rfl ?_
      refine g_bipush dX3_readOne_36 rfl ?_
      refine g_cmp_le (tgt := 47) dX3_readOne_38 rfl o2 (by decide) ?_
      refine ite_imp (fun w => ?_) (fun w => ?_) w
      · exact g_sub (ls' := [aP 38, aP 1, aP 4, aI x3, aI 0, aI (h 1 7)]) ⟨Or.inr rfl, Or.inr rfl, Or.inr rfl, Or.inr rfl, Or.inr rfl, Or.inr rfl, trivial⟩ w
      · refine g_aload_n dX3_readOne_41 rfl ?_
        refine g_iconst dX3_readOne_42 ?_
        refine g_callVI (n := 1) (As := [aI 1]) (st := []) dX3_readOne_43 ml_X3_41 sh_1 rfl (al_1 hn) rfl rfl (Nat.le_of_ble_eq_true rfl) (RtI.mono w (fun r2 h2 w => ?_))
        obtain ⟨o4, w⟩ := w
        exact g_retZ dX3_readOne_46 rfl o4 w
  · refine g_iconst dX3_readOne_9 ?_
    refine g_goto (tgt := 14) dX3_readOne_10 rfl ?_
    refine g_istore (ls' := [aP 38, aP 1, aP 4, aI x3, aI 1, aU]) dX3_readOne_14 (Nat.le_of_ble_eq_true rfl) rfl rfl ?_
    refine g_aload_n dX3_readOne_16 rfl ?_
    refine g_getI (J := 7) dX3_readOne_17 fl_X3_48 sh_1 (al_1 hn) (fun _ _ _ => rfl) rfl ?_
    refine g_istore (ls' := [aP 38, aP 1, aP 4, aI x3, aI 1, aI (h 1 7)]) dX3_readOne_20 (Nat.le_of_ble_eq_true rfl) rfl rfl ?_
    refine g_iload dX3_readOne_22 rfl ?_
    refine g_if_ne (tgt := 47) dX3_readOne_24 rfl (by decide) ?_
    rw [if_pos (by decide)]
    exact g_sub (ls' := [aP 38, aP 1, aP 4, aI x3, aI 1, aI (h 1 7)]) ⟨Or.inr rfl, Or.inr rfl, Or.inr rfl, Or.inr rfl, Or.inr rfl, Or.inr rfl, trivial⟩ w
theorem e_X3_readBox {l : Launch} {D : Nat} {ζ : ZP} {h : HI} {Q : Int → HI → Prop} (hn : 144 ≤ ζ.2.2.2.2) (w : RtI l D mX7_isName (zz ζ) [aP 1] h (fun r1 h1 => (rg r1) ∧ (if ¬ r1 = 0 then (RtI l D mX0_boxNamed (zz ζ) [aP 4, aI (h1 1 6)] h1 (fun r2 h2 => (rg r2) ∧ (if ¬ r2 = (-1) then (RtV l D mX7_step (zz ζ) [aP 1] h2 (fun h3 => RtI l D mX3_addStep (zz ζ) [aP 38, aI (bor 13 (bshl r2 16))] h3 (fun r4 h4 => (r4 = 0 ∨ r4 = 1) ∧ Q r4 h4))) else (RtI l D mX7_refuse (zz ζ) [aP 1, aI 3] h2 (fun r5 h5 => (r5 = 0 ∨ r5 = 1) ∧ Q r5 h5))))) else (RtI l D mX7_refuse (zz ζ) [aP 1, aI 1] h1 (fun r6 h6 => (r6 = 0 ∨ r6 = 1) ∧ Q r6 h6))))) : RtI l (D + 1) mX3_readBox (zz ζ) [aP 38, aP 1, aP 4] h Q := by
  refine RtI.of 1 pn_X3 [aP 38, aP 1, aP 4, aU] rfl rfl ?_
  refine g_aload_n dX3_readBox_0 rfl ?_
  refine g_callVI (n := 0) (As := []) (st := []) dX3_readBox_1 ml_X3_71 sh_1 rfl (al_1 hn) rfl rfl (Nat.le_of_ble_eq_true rfl) (RtI.mono w (fun r1 h1 w => ?_))
  obtain ⟨o1, w⟩ := w
  refine g_if_ne (tgt := 13) dX3_readBox_4 rfl o1 ?_
  refine ite_imp (fun w => ?_) (fun w => ?_) w
  · refine g_aload_n dX3_readBox_13 rfl ?_
    refine g_aload_n dX3_readBox_14 rfl ?_
    refine g_getI (J := 6) dX3_readBox_15 fl_X3_75 sh_1 (al_1 hn) (fun _ _ _ => rfl) rfl ?_
    refine g_callVI (n := 1) (As := [aI (h1 1 6)]) (st := []) dX3_readBox_18 ml_X3_78 sh_4 rfl (al_4 hn) rfl rfl (Nat.le_of_ble_eq_true rfl) (RtI.mono w (fun r2 h2 w => ?_))
    refine g_istore_n (ls' := [aP 38, aP 1, aP 4, aI r2]) dX3_readBox_21 (Nat.le_of_ble_eq_true rfl) rfl rfl ?_
    refine g_iload_n dX3_readBox_22 rfl ?_
    refine g_iconst dX3_readBox_23 ?_
    obtain ⟨o2, w⟩ := w
    refine g_cmp_ne (tgt := 33) dX3_readBox_24 rfl o2 (by decide) ?_
    refine ite_imp (fun w => ?_) (fun w => ?_) w
    · refine g_aload_n dX3_readBox_33 rfl ?_
      refine g_callVV (n := 0) (As := []) (st := []) dX3_readBox_34 ml_X3_51 sh_1 rfl (al_1 hn) rfl rfl (Nat.le_of_ble_eq_true rfl) (RtV.mono w (fun h3 w => ?_))
      refine g_aload_n dX3_readBox_37 rfl ?_
      refine g_bipush dX3_readBox_38 rfl ?_
      refine g_iload_n dX3_readBox_40 rfl ?_
      refine g_bipush dX3_readBox_41 rfl ?_
      refine g_ishl dX3_readBox_43 ?_
      refine g_ior dX3_readBox_44 ?_
      refine g_callVI (n := 1) (As := [aI (bor 13 (bshl r2 16))]) (st := []) dX3_readBox_45 ml_X3_54 sh_38 rfl (al_38 hn) rfl rfl (Nat.le_of_ble_eq_true rfl) (RtI.mono w (fun r4 h4 w => ?_))
      obtain ⟨o3, w⟩ := w
      exact g_retZ dX3_readBox_48 rfl o3 w
    · refine g_aload_n dX3_readBox_27 rfl ?_
      refine g_iconst dX3_readBox_28 ?_
      refine g_callVI (n := 1) (As := [aI 3]) (st := []) dX3_readBox_29 ml_X3_41 sh_1 rfl (al_1 hn) rfl rfl (Nat.le_of_ble_eq_true rfl) (RtI.mono w (fun r5 h5 w => ?_))
      obtain ⟨o4, w⟩ := w
      exact g_retZ dX3_readBox_32 rfl o4 w
  · refine g_aload_n dX3_readBox_7 rfl ?_
    refine g_iconst dX3_readBox_8 ?_
    refine g_callVI (n := 1) (As := [aI 1]) (st := []) dX3_readBox_9 ml_X3_41 sh_1 rfl (al_1 hn) rfl rfl (Nat.le_of_ble_eq_true rfl) (RtI.mono w (fun r6 h6 w => ?_))
    obtain ⟨o5, w⟩ := w
    exact g_retZ dX3_readBox_12 rfl o5 w
theorem e_X3_readSize {l : Launch} {D : Nat} {ζ : ZP} {h : HI} {Q : Int → HI → Prop} {x2 : Int} (hn : 144 ≤ ζ.2.2.2.2) (w : (rg (h 1 4)) ∧ (if (h 1 4) < 60 then (RtI l D mX7_refuse (zz ζ) [aP 1, aI 1] h (fun r1 h1 => (r1 = 0 ∨ r1 = 1) ∧ Q r1 h1)) else (if (h 1 4) ≤ 62 then (RtV l D mX7_step (zz ζ) [aP 1] h (fun h2 => (rg (h2 1 4)) ∧ (if (h2 1 4) = 3 then (RtV l D mX7_step (zz ζ) [aP 1] h2 (fun h3 => RtI l D mX3_addStep (zz ζ) [aP 38, aI (bor (bor x2 (bshl (h 1 4) 8)) (bshl (h2 1 6) 16))] h3 (fun r4 h4 => (r4 = 0 ∨ r4 = 1) ∧ Q r4 h4))) else (RtI l D mX7_refuse (zz ζ) [aP 1, aI 1] h2 (fun r5 h5 => (r5 = 0 ∨ r5 = 1) ∧ Q r5 h5))))) else (RtI l D mX7_refuse (zz ζ) [aP 1, aI 1] h (fun r6 h6 => (r6 = 0 ∨ r6 = 1) ∧ Q r6 h6))))) : RtI l (D + 1) mX3_readSize (zz ζ) [aP 38, aP 1, aI x2] h Q := by
  refine RtI.of 2 pn_X3 [aP 38, aP 1, aI x2, aU, aU] rfl rfl ?_
  refine g_aload_n dX3_readSize_0 rfl ?_
  refine g_getI (J := 4) dX3_readSize_1 fl_X3_38 sh_1 (al_1 hn) (fun _ _ _ => rfl) rfl ?_
  refine g_istore_n (ls' := [aP 38, aP 1, aI x2, aI (h 1 4), aU]) dX3_readSize_4 (Nat.le_of_ble_eq_true rfl) rfl rfl ?_
  refine g_iload_n dX3_readSize_5 rfl ?_
  refine g_bipush dX3_readSize_6 rfl ?_
  obtain ⟨o1, w⟩ := w
  refine g_cmp_lt (tgt := 17) dX3_readSize_8 rfl o1 (by decide) ?_
  refine ite_imp (fun w => ?_) (fun w => ?_) w
  · refine g_aload_n dX3_readSize_17 rfl ?_
    refine g_iconst dX3_readSize_18 ?_
    refine g_callVI (n := 1) (As := [aI 1]) (st := []) dX3_readSize_19 ml_X3_41 sh_1 rfl (al_1 hn) rfl rfl (Nat.le_of_ble_eq_true rfl) (RtI.mono w (fun r1 h1 w => ?_))
    obtain ⟨o2, w⟩ := w
    exact g_retZ dX3_readSize_22 rfl o2 w
  · refine g_iload_n dX3_readSize_11 rfl ?_
    refine g_bipush dX3_readSize_12 rfl ?_
    refine g_cmp_le (tgt := 23) dX3_readSize_14 rfl o1 (by decide) ?_
    refine ite_imp (fun w => ?_) (fun w => ?_) w
    · refine g_aload_n dX3_readSize_23 rfl ?_
      refine g_callVV (n := 0) (As := []) (st := []) dX3_readSize_24 ml_X3_51 sh_1 rfl (al_1 hn) rfl rfl (Nat.le_of_ble_eq_true rfl) (RtV.mono w (fun h2 w => ?_))
      refine g_aload_n dX3_readSize_27 rfl ?_
      refine g_getI (J := 4) dX3_readSize_28 fl_X3_38 sh_1 (al_1 hn) (fun _ _ _ => rfl) rfl ?_
      refine g_iconst dX3_readSize_31 ?_
      obtain ⟨o3, w⟩ := w
      refine g_cmp_eq (tgt := 41) dX3_readSize_32 rfl o3 (by decide) ?_
      refine ite_imp (fun w => ?_) (fun w => ?_) w
      · refine g_aload_n dX3_readSize_41 rfl ?_
        refine g_getI (J := 6) dX3_readSize_42 fl_X3_75 sh_1 (al_1 hn) (fun _ _ _ => rfl) rfl ?_
        refine g_istore (ls' := [aP 38, aP 1, aI x2, aI (h 1 4), aI (h2 1 6)]) dX3_readSize_45 (Nat.le_of_ble_eq_true rfl) rfl rfl ?_
        refine g_aload_n dX3_readSize_47 rfl ?_
        refine g_callVV (n := 0) (As := []) (st := []) dX3_readSize_48 ml_X3_51 sh_1 rfl (al_1 hn) rfl rfl (Nat.le_of_ble_eq_true rfl) (RtV.mono w (fun h3 w => ?_))
        refine g_aload_n dX3_readSize_51 rfl ?_
        refine g_iload_n dX3_readSize_52 rfl ?_
        refine g_iload_n dX3_readSize_53 rfl ?_
        refine g_bipush dX3_readSize_54 rfl ?_
        refine g_ishl dX3_readSize_56 ?_
        refine g_ior dX3_readSize_57 ?_
        refine g_iload dX3_readSize_58 rfl ?_
        refine g_bipush dX3_readSize_60 rfl ?_
        refine g_ishl dX3_readSize_62 ?_
        refine g_ior dX3_readSize_63 ?_
        refine g_callVI (n := 1) (As := [aI (bor (bor x2 (bshl (h 1 4) 8)) (bshl (h2 1 6) 16))]) (st := []) dX3_readSize_64 ml_X3_54 sh_38 rfl (al_38 hn) rfl rfl (Nat.le_of_ble_eq_true rfl) (RtI.mono w (fun r4 h4 w => ?_))
        obtain ⟨o4, w⟩ := w
        exact g_retZ dX3_readSize_67 rfl o4 w
      · refine g_aload_n dX3_readSize_35 rfl ?_
        refine g_iconst dX3_readSize_36 ?_
        refine g_callVI (n := 1) (As := [aI 1]) (st := []) dX3_readSize_37 ml_X3_41 sh_1 rfl (al_1 hn) rfl rfl (Nat.le_of_ble_eq_true rfl) (RtI.mono w (fun r5 h5 w => ?_))
        obtain ⟨o5, w⟩ := w
        exact g_retZ dX3_readSize_40 rfl o5 w
    · refine g_aload_n dX3_readSize_17 rfl ?_
      refine g_iconst dX3_readSize_18 ?_
      refine g_callVI (n := 1) (As := [aI 1]) (st := []) dX3_readSize_19 ml_X3_41 sh_1 rfl (al_1 hn) rfl rfl (Nat.le_of_ble_eq_true rfl) (RtI.mono w (fun r6 h6 w => ?_))
      obtain ⟨o6, w⟩ := w
      exact g_retZ dX3_readSize_22 rfl o6 w
theorem e_X3_addStep {l : Launch} {D : Nat} {ζ : ZP} {h : HI} {Q : Int → HI → Prop} {x1 : Int} (hn : 144 ≤ ζ.2.2.2.2) (w : (rg (h 38 1)) ∧ (if (h 38 1) < 40 then ((0 ≤ (h 38 1) ∧ (h 38 1) < 40) ∧ Q 1 (hu (hu h 39 (h 38 1) x1) 38 1 ((h 38 1) + 1))) else (Q 0 h))) : RtI l (D + 1) mX3_addStep (zz ζ) [aP 38, aI x1] h Q := by
  refine RtI.of 0 pn_X3 [aP 38, aI x1] rfl rfl ?_
  refine g_aload_n dX3_addStep_0 rfl ?_
  refine g_getI (J := 1) dX3_addStep_1 fl_X3_21 sh_38 (al_38 hn) (fun _ _ _ => rfl) rfl ?_
  refine g_aload_n dX3_addStep_4 rfl ?_
  refine g_getR dX3_addStep_5 fl_X3_11 sh_38 (al_38 hn) (fun _ _ _ => rfl) rf_38_0 ?_
  refine g_alen (n := 40) dX3_addStep_8 sh_39 (al_39 hn) (by decide) rfl ?_
  obtain ⟨o1, w⟩ := w
  refine g_cmp_lt (tgt := 14) dX3_addStep_9 rfl o1 (by decide) ?_
  refine ite_imp (fun w => ?_) (fun w => ?_) w
  · refine g_aload_n dX3_addStep_14 rfl ?_
    refine g_getR dX3_addStep_15 fl_X3_11 sh_38 (al_38 hn) (fun _ _ _ => rfl) rf_38_0 ?_
    refine g_aload_n dX3_addStep_18 rfl ?_
    refine g_getI (J := 1) dX3_addStep_19 fl_X3_21 sh_38 (al_38 hn) (fun _ _ _ => rfl) rfl ?_
    refine g_iload_n dX3_addStep_22 rfl ?_
    obtain ⟨o2, w⟩ := w
    refine g_iast dX3_addStep_23 sh_39 (al_39 hn) (Nat.le_of_ble_eq_true rfl) o2 ?_
    refine g_aload_n dX3_addStep_24 rfl ?_
    refine g_dup dX3_addStep_25 rfl ?_
    refine g_getI (J := 1) dX3_addStep_26 fl_X3_21 sh_38 (al_38 hn) (fun _ _ _ => rfl) rfl ?_
    refine g_iconst dX3_addStep_29 ?_
    refine g_iadd dX3_addStep_30 ?_
    refine g_putI (J := 1) dX3_addStep_31 fl_X3_21 sh_38 (al_38 hn) rfl rfl ?_
    refine g_iconst dX3_addStep_34 ?_
    exact g_retZ dX3_addStep_35 rfl (Or.inr rfl) w
  · refine g_iconst dX3_addStep_12 ?_
    exact g_retZ dX3_addStep_13 rfl (Or.inl rfl) w
theorem b_X3_fits_6 {l : Launch} {D : Nat} {ζ : ZP} {h : HI} {Q : Int → HI → Prop} {x3 x4 x5 : Int} (hn : 144 ≤ ζ.2.2.2.2) (w : (rg x5) ∧ (rg (h 8 1)) ∧ (if (h 8 1) ≤ x5 then ((rg (band x4 1)) ∧ (if (band x4 1) = 0 then (Q 0 h) else (Q 1 h))) else ((0 ≤ x5 ∧ x5 < 40) ∧ (rg (band (h 9 x5) 255)) ∧ (if ¬ (band (h 9 x5) 255) = 12 then (if ¬ (band (h 9 x5) 255) = 11 then (if ¬ (band (h 9 x5) 255) = 10 then (RtI l D mX3_holds (zz ζ) [aI (h 9 x5), aP 3, aP 40, aI x3] h (fun r1 h1 => (rg r1) ∧ (if r1 = 0 then (G l (D + 1) 0 0 mX3_fits (zz ζ) 6 [aP 8, aP 3, aP 40, aI x3, aI (bor (bshl x4 1) 0), aI (x5 + 1), aU] [] h1 (qI (zz ζ) Q)) else (G l (D + 1) 0 0 mX3_fits (zz ζ) 6 [aP 8, aP 3, aP 40, aI x3, aI (bor (bshl x4 1) 1), aI (x5 + 1), aU] [] h1 (qI (zz ζ) Q))))) else (G l (D + 1) 0 0 mX3_fits (zz ζ) 6 [aP 8, aP 3, aP 40, aI x3, aI (bor (bshr x4 1) (band x4 1)), aI (x5 + 1), aU] [] h (qI (zz ζ) Q))) else (G l (D + 1) 0 0 mX3_fits (zz ζ) 6 [aP 8, aP 3, aP 40, aI x3, aI (band (bshr x4 1) (bor x4 (-2))), aI (x5 + 1), aU] [] h (qI (zz ζ) Q))) else (G l (D + 1) 0 0 mX3_fits (zz ζ) 6 [aP 8, aP 3, aP 40, aI x3, aI (bxor x4 1), aI (x5 + 1), aU] [] h (qI (zz ζ) Q)))))) : G l (D + 1) 0 0 mX3_fits (zz ζ) 6 [aP 8, aP 3, aP 40, aI x3, aI x4, aI x5, aU] [] h (qI (zz ζ) Q) := by
  refine g_iload dX3_fits_6 rfl ?_
  refine g_aload_n dX3_fits_8 rfl ?_
  refine g_getI (J := 1) dX3_fits_9 fl_X3_21 sh_8 (al_8 hn) (fun _ _ _ => rfl) rfl ?_
  obtain ⟨o1, w⟩ := w
  obtain ⟨o2, w⟩ := w
  refine g_cmp_ge (tgt := 121) dX3_fits_12 rfl o1 o2 ?_
  refine ite_imp (fun w => ?_) (fun w => ?_) w
  · refine g_iload dX3_fits_121 rfl ?_
    refine g_iconst dX3_fits_123 ?_
    refine g_iand dX3_fits_124 ?_
    obtain ⟨o3, w⟩ := w
    refine g_if_eq (tgt := 132) dX3_fits_125 rfl o3 ?_
    refine ite_imp (fun w => ?_) (fun w => ?_) w
    · refine g_iconst dX3_fits_132 ?_
      exact g_retZ dX3_fits_133 rfl (Or.inl rfl) w
    · refine g_iconst dX3_fits_128 ?_
      refine g_goto (tgt := 133) dX3_fits_129 rfl ?_
      exact g_retZ dX3_fits_133 rfl (Or.inr rfl) w
  · refine g_aload_n dX3_fits_15 rfl ?_
    refine g_getR dX3_fits_16 fl_X3_11 sh_8 (al_8 hn) (fun _ _ _ => rfl) rf_8_0 ?_
    refine g_iload dX3_fits_19 rfl ?_
    obtain ⟨o4, w⟩ := w
    refine g_iald dX3_fits_21 sh_9 (al_9 hn) (Nat.le_of_ble_eq_true rfl) o4 ?_
    refine g_sipush dX3_fits_22 rfl ?_
    refine g_iand dX3_fits_25 ?_
    refine g_istore (ls' := [aP 8, aP 3, aP 40, aI x3, aI x4, aI x5, aI (band (h 9 x5) 255)]) dX3_fits_26 (Nat.le_of_ble_eq_true rfl) rfl rfl ?_
    refine g_iload dX3_fits_28 rfl ?_
    refine g_bipush dX3_fits_30 rfl ?_
    obtain ⟨o5, w⟩ := w
    refine g_cmp_ne (tgt := 44) dX3_fits_32 rfl o5 (by decide) ?_
    refine ite_imp (fun w => ?_) (fun w => ?_) w
    · refine g_iload dX3_fits_44 rfl ?_
      refine g_bipush dX3_fits_46 rfl ?_
      refine g_cmp_ne (tgt := 66) dX3_fits_48 rfl o5 (by decide) ?_
      refine ite_imp (fun w => ?_) (fun w => ?_) w
      · refine g_iload dX3_fits_66 rfl ?_
        refine g_bipush dX3_fits_68 rfl ?_
        refine g_cmp_ne (tgt := 87) dX3_fits_70 rfl o5 (by decide) ?_
        refine ite_imp (fun w => ?_) (fun w => ?_) w
        · refine g_iload dX3_fits_87 rfl ?_
          refine g_iconst dX3_fits_89 ?_
          refine g_ishl dX3_fits_90 ?_
          refine g_aload_n dX3_fits_91 rfl ?_
          refine g_getR dX3_fits_92 fl_X3_11 sh_8 (al_8 hn) (fun _ _ _ => rfl) rf_8_0 ?_
          refine g_iload dX3_fits_95 rfl ?_
          refine g_iald dX3_fits_97 sh_9 (al_9 hn) (Nat.le_of_ble_eq_true rfl) o4 ?_
          refine g_aload_n dX3_fits_98 rfl ?_
          refine g_aload_n dX3_fits_99 rfl ?_
          refine g_iload_n dX3_fits_100 rfl ?_
          refine g_callSI (n := 4) (As := [aI (h 9 x5), aP 3, aP 40, aI x3]) (st := [aI (bshl x4 1)]) dX3_fits_101 ml_X3_84 rfl rfl (Nat.le_of_ble_eq_true rfl) rfl (RtI.mono w (fun r1 h1 w => ?_))
          obtain ⟨o6, w⟩ := w
          refine g_if_eq (tgt := 111) dX3_fits_104 rfl o6 ?_
          refine ite_imp (fun w => ?_) (fun w => ?_) w
          · refine g_iconst dX3_fits_111 ?_
            refine g_ior dX3_fits_112 ?_
            refine g_istore (ls' := [aP 8, aP 3, aP 40, aI x3, aI (bor (bshl x4 1) 0), aI x5, aI (band (h 9 x5) 255)]) dX3_fits_113 (Nat.le_of_ble_eq_true rfl) rfl rfl ?_
            refine g_iinc (ls' := [aP 8, aP 3, aP 40, aI x3, aI (bor (bshl x4 1) 0), aI (x5 + 1), aI (band (h 9 x5) 255)]) dX3_fits_115 rfl (Nat.le_of_ble_eq_true rfl) rfl rfl ?_
            refine g_goto (tgt := 6) dX3_fits_118 rfl ?_
            exact g_sub (ls' := [aP 8, aP 3, aP 40, aI x3, aI (bor (bshl x4 1) 0), aI (x5 + 1), aU]) ⟨Or.inr rfl, Or.inr rfl, Or.inr rfl, Or.inr rfl, Or.inr rfl, Or.inr rfl, Or.inl rfl, trivial⟩ w
          · refine g_iconst dX3_fits_107 ?_
            refine g_goto (tgt := 112) dX3_fits_108 rfl ?_
            refine g_ior dX3_fits_112 ?_
            refine g_istore (ls' := [aP 8, aP 3, aP 40, aI x3, aI (bor (bshl x4 1) 1), aI x5, aI (band (h 9 x5) 255)]) dX3_fits_113 (Nat.le_of_ble_eq_true rfl) rfl rfl ?_
            refine g_iinc (ls' := [aP 8, aP 3, aP 40, aI x3, aI (bor (bshl x4 1) 1), aI (x5 + 1), aI (band (h 9 x5) 255)]) dX3_fits_115 rfl (Nat.le_of_ble_eq_true rfl) rfl rfl ?_
            refine g_goto (tgt := 6) dX3_fits_118 rfl ?_
            exact g_sub (ls' := [aP 8, aP 3, aP 40, aI x3, aI (bor (bshl x4 1) 1), aI (x5 + 1), aU]) ⟨Or.inr rfl, Or.inr rfl, Or.inr rfl, Or.inr rfl, Or.inr rfl, Or.inr rfl, Or.inl rfl, trivial⟩ w
        · refine g_iload dX3_fits_73 rfl ?_
          refine g_iconst dX3_fits_75 ?_
          refine g_ishr dX3_fits_76 ?_
          refine g_iload dX3_fits_77 rfl ?_
          refine g_iconst dX3_fits_79 ?_
          refine g_iand dX3_fits_80 ?_
          refine g_ior dX3_fits_81 ?_
          refine g_istore (ls' := [aP 8, aP 3, aP 40, aI x3, aI (bor (bshr x4 1) (band x4 1)), aI x5, aI (band (h 9 x5) 255)]) dX3_fits_82 (Nat.le_of_ble_eq_true rfl) rfl rfl ?_
          refine g_goto (tgt := 115) dX3_fits_84 rfl ?_
          refine g_iinc (ls' := [aP 8, aP 3, aP 40, aI x3, aI (bor (bshr x4 1) (band x4 1)), aI (x5 + 1), aI (band (h 9 x5) 255)]) dX3_fits_115 rfl (Nat.le_of_ble_eq_true rfl) rfl rfl ?_
          refine g_goto (tgt := 6) dX3_fits_118 rfl ?_
          exact g_sub (ls' := [aP 8, aP 3, aP 40, aI x3, aI (bor (bshr x4 1) (band x4 1)), aI (x5 + 1), aU]) ⟨Or.inr rfl, Or.inr rfl, Or.inr rfl, Or.inr rfl, Or.inr rfl, Or.inr rfl, Or.inl rfl, trivial⟩ w
      · refine g_iload dX3_fits_51 rfl ?_
        refine g_iconst dX3_fits_53 ?_
        refine g_ishr dX3_fits_54 ?_
        refine g_iload dX3_fits_55 rfl ?_
        refine g_bipush dX3_fits_57 rfl ?_
        refine g_ior dX3_fits_59 ?_
        refine g_iand dX3_fits_60 ?_
        refine g_istore (ls' := [aP 8, aP 3, aP 40, aI x3, aI (band (bshr x4 1) (bor x4 (-2))), aI x5, aI (band (h 9 x5) 255)]) dX3_fits_61 (Nat.le_of_ble_eq_true rfl) rfl rfl ?_
        refine g_goto (tgt := 115) dX3_fits_63 rfl ?_
        refine g_iinc (ls' := [aP 8, aP 3, aP 40, aI x3, aI (band (bshr x4 1) (bor x4 (-2))), aI (x5 + 1), aI (band (h 9 x5) 255)]) dX3_fits_115 rfl (Nat.le_of_ble_eq_true rfl) rfl rfl ?_
        refine g_goto (tgt := 6) dX3_fits_118 rfl ?_
        exact g_sub (ls' := [aP 8, aP 3, aP 40, aI x3, aI (band (bshr x4 1) (bor x4 (-2))), aI (x5 + 1), aU]) ⟨Or.inr rfl, Or.inr rfl, Or.inr rfl, Or.inr rfl, Or.inr rfl, Or.inr rfl, Or.inl rfl, trivial⟩ w
    · refine g_iload dX3_fits_35 rfl ?_
      refine g_iconst dX3_fits_37 ?_
      refine g_ixor dX3_fits_38 ?_
      refine g_istore (ls' := [aP 8, aP 3, aP 40, aI x3, aI (bxor x4 1), aI x5, aI (band (h 9 x5) 255)]) dX3_fits_39 (Nat.le_of_ble_eq_true rfl) rfl rfl ?_
      refine g_goto (tgt := 115) dX3_fits_41 rfl ?_
      refine g_iinc (ls' := [aP 8, aP 3, aP 40, aI x3, aI (bxor x4 1), aI (x5 + 1), aI (band (h 9 x5) 255)]) dX3_fits_115 rfl (Nat.le_of_ble_eq_true rfl) rfl rfl ?_
      refine g_goto (tgt := 6) dX3_fits_118 rfl ?_
      exact g_sub (ls' := [aP 8, aP 3, aP 40, aI x3, aI (bxor x4 1), aI (x5 + 1), aU]) ⟨Or.inr rfl, Or.inr rfl, Or.inr rfl, Or.inr rfl, Or.inr rfl, Or.inr rfl, Or.inl rfl, trivial⟩ w
theorem e_X3_fits {l : Launch} {D : Nat} {ζ : ZP} {h : HI} {Q : Int → HI → Prop} {x3 : Int} (hn : 144 ≤ ζ.2.2.2.2) (w : G l (D + 1) 0 0 mX3_fits (zz ζ) 6 [aP 8, aP 3, aP 40, aI x3, aI 0, aI 0, aU] [] h (qI (zz ζ) Q)) : RtI l (D + 1) mX3_fits (zz ζ) [aP 8, aP 3, aP 40, aI x3] h Q := by
  refine RtI.of 3 pn_X3 [aP 8, aP 3, aP 40, aI x3, aU, aU, aU] rfl rfl ?_
  refine g_iconst dX3_fits_0 ?_
  refine g_istore (ls' := [aP 8, aP 3, aP 40, aI x3, aI 0, aU, aU]) dX3_fits_1 (Nat.le_of_ble_eq_true rfl) rfl rfl ?_
  refine g_iconst dX3_fits_3 ?_
  refine g_istore (ls' := [aP 8, aP 3, aP 40, aI x3, aI 0, aI 0, aU]) dX3_fits_4 (Nat.le_of_ble_eq_true rfl) rfl rfl ?_
  exact g_sub (ls' := [aP 8, aP 3, aP 40, aI x3, aI 0, aI 0, aU]) ⟨Or.inr rfl, Or.inr rfl, Or.inr rfl, Or.inr rfl, Or.inr rfl, Or.inr rfl, Or.inl rfl, trivial⟩ w
theorem b_X3_holds_117 {l : Launch} {D : Nat} {ζ : ZP} {h : HI} {Q : Int → HI → Prop} {x0 x3 x4 : Int} (hn : 144 ≤ ζ.2.2.2.2) (w : RtI l D mX8_has (zz ζ) [aP 40, aI x3] h (fun r1 h1 => (rg r1) ∧ (if r1 = 0 then (Q 0 h1) else (RtI l D mX8_toldOf (zz ζ) [aP 40, aI x3, aI (((band x0 255) - 16) + 1)] h1 (fun r2 h2 => RtI l D mX3_compares (zz ζ) [aI r2, aI (band (bshr x0 8) 255), aI x4] h2 (fun r3 h3 => (rg r3) ∧ (if r3 = 0 then (Q 0 h3) else (Q 1 h3)))))))) : G l (D + 1) 0 0 mX3_holds (zz ζ) 117 [aI x0, aU, aP 40, aI x3, aI x4] [] h (qI (zz ζ) Q) := by
  refine g_aload_n dX3_holds_117 rfl ?_
  refine g_iload_n dX3_holds_118 rfl ?_
  refine g_callVI (n := 1) (As := [aI x3]) (st := []) dX3_holds_119 ml_X3_109 sh_40 rfl (al_40 hn) rfl rfl (Nat.le_of_ble_eq_true rfl) (RtI.mono w (fun r1 h1 w => ?_))
  obtain ⟨o1, w⟩ := w
  refine g_if_eq (tgt := 160) dX3_holds_122 rfl o1 ?_
  refine ite_imp (fun w => ?_) (fun w => ?_) w
  · refine g_iconst dX3_holds_160 ?_
    exact g_retZ dX3_holds_161 rfl (Or.inl rfl) w
  · refine g_aload_n dX3_holds_125 rfl ?_
    refine g_iload_n dX3_holds_126 rfl ?_
    refine g_iload_n dX3_holds_127 rfl ?_
    refine g_sipush dX3_holds_128 rfl ?_
    refine g_iand dX3_holds_131 ?_
    refine g_bipush dX3_holds_132 rfl ?_
    refine g_isub dX3_holds_134 ?_
    refine g_iconst dX3_holds_135 ?_
    refine g_iadd dX3_holds_136 ?_
    refine g_callVI (n := 2) (As := [aI x3, aI (((band x0 255) - 16) + 1)]) (st := []) dX3_holds_137 ml_X3_114 sh_40 rfl (al_40 hn) rfl rfl (Nat.le_of_ble_eq_true rfl) (RtI.mono w (fun r2 h2 w => ?_))
    refine g_iload_n dX3_holds_140 rfl ?_
    refine g_bipush dX3_holds_141 rfl ?_
    refine g_ishr dX3_holds_143 ?_
    refine g_sipush dX3_holds_144 rfl ?_
    refine g_iand dX3_holds_147 ?_
    refine g_iload dX3_holds_148 rfl ?_
    refine g_callSI (n := 3) (As := [aI r2, aI (band (bshr x0 8) 255), aI x4]) (st := []) dX3_holds_150 ml_X3_105 rfl rfl (Nat.le_of_ble_eq_true rfl) rfl (RtI.mono w (fun r3 h3 w => ?_))
    obtain ⟨o2, w⟩ := w
    refine g_if_eq (tgt := 160) dX3_holds_153 rfl o2 ?_
    refine ite_imp (fun w => ?_) (fun w => ?_) w
    · refine g_iconst dX3_holds_160 ?_
      exact g_retZ dX3_holds_161 rfl (Or.inl rfl) w
    · refine g_iconst dX3_holds_156 ?_
      refine g_goto (tgt := 161) dX3_holds_157 rfl ?_
      exact g_retZ dX3_holds_161 rfl (Or.inr rfl) w
theorem e_X3_holds {l : Launch} {D : Nat} {ζ : ZP} {h : HI} {Q : Int → HI → Prop} {x0 x3 : Int} (hn : 144 ≤ ζ.2.2.2.2) (w : (rg (band x0 255)) ∧ ((band x0 255) = 13 → ((0 ≤ x3 ∧ x3 < 60) ∧ (rg (h 22 x3)) ∧ (rg (bshr x0 16)) ∧ (if ¬ (h 22 x3) = (bshr x0 16) then (Q 0 h) else (Q 1 h)))) ∧ ((band x0 255) = 14 → (RtI l D mX5_liesOf (zz ζ) [aP 3, aI x3] h (fun r1 h1 => (rg r1) ∧ (if r1 = 0 then (Q 0 h1) else (Q 1 h1))))) ∧ ((band x0 255) = 15 → ((0 ≤ x3 ∧ x3 < 60) ∧ (rg (h 11 x3)) ∧ (if (h 11 x3) = (-1) then (Q 0 h) else (Q 1 h)))) ∧ ((band x0 255) = 16 → (G l (D + 1) 0 0 mX3_holds (zz ζ) 117 [aI x0, aU, aP 40, aI x3, aI (bshr x0 16)] [] h (qI (zz ζ) Q))) ∧ ((band x0 255) = 17 → (G l (D + 1) 0 0 mX3_holds (zz ζ) 117 [aI x0, aU, aP 40, aI x3, aI (bshr x0 16)] [] h (qI (zz ζ) Q))) ∧ ((band x0 255) = 18 → (G l (D + 1) 0 0 mX3_holds (zz ζ) 117 [aI x0, aU, aP 40, aI x3, aI (bshr x0 16)] [] h (qI (zz ζ) Q))) ∧ ((band x0 255) = 19 → (RtI l D mX3_compares (zz ζ) [aI x3, aI (band (bshr x0 8) 255), aI (bshr x0 16)] h (fun r2 h2 => (r2 = 0 ∨ r2 = 1) ∧ Q r2 h2))) ∧ ((band x0 255) < 13 ∨ 19 < (band x0 255) → (G l (D + 1) 0 0 mX3_holds (zz ζ) 117 [aI x0, aU, aP 40, aI x3, aI (bshr x0 16)] [] h (qI (zz ζ) Q)))) : RtI l (D + 1) mX3_holds (zz ζ) [aI x0, aP 3, aP 40, aI x3] h Q := by
  refine RtI.of 1 pn_X3 [aI x0, aP 3, aP 40, aI x3, aU] rfl rfl ?_
  refine g_iload_n dX3_holds_0 rfl ?_
  refine g_bipush dX3_holds_1 rfl ?_
  refine g_ishr dX3_holds_3 ?_
  refine g_istore (ls' := [aI x0, aP 3, aP 40, aI x3, aI (bshr x0 16)]) dX3_holds_4 (Nat.le_of_ble_eq_true rfl) rfl rfl ?_
  refine g_iload_n dX3_holds_6 rfl ?_
  refine g_sipush dX3_holds_7 rfl ?_
  refine g_iand dX3_holds_10 ?_
  obtain ⟨o1, w⟩ := w
  obtain ⟨w0, w1, w2, w3, w4, w5, w6, w7⟩ := w
  by_cases hout : (band x0 255) < 13 ∨ 19 < (band x0 255)
  · refine g_tabOut (tgt := 117) dX3_holds_11 o1 hout rfl ?_
    have w := w7 hout
    exact g_sub (ls' := [aI x0, aU, aP 40, aI x3, aI (bshr x0 16)]) ⟨Or.inr rfl, Or.inl rfl, Or.inr rfl, Or.inr rfl, Or.inr rfl, trivial⟩ w
  by_cases hc0 : (band x0 255) = 13
  · have w := w0 hc0
    refine g_tabIn (tgt := 52) dX3_holds_11 o1 (by omega) (by omega) (by rw [hc0]; rfl) rfl ?_
    refine g_aload_n dX3_holds_52 rfl ?_
    refine g_getR dX3_holds_53 fl_X3_88 sh_3 (al_3 hn) (fun _ _ _ => rfl) rf_3_4 ?_
    refine g_iload_n dX3_holds_56 rfl ?_
    obtain ⟨o2, w⟩ := w
    refine g_iald dX3_holds_57 sh_22 (al_22 hn) (Nat.le_of_ble_eq_true rfl) o2 ?_
    refine g_iload dX3_holds_58 rfl ?_
    obtain ⟨o3, w⟩ := w
    obtain ⟨o4, w⟩ := w
    refine g_cmp_ne (tgt := 67) dX3_holds_60 rfl o3 o4 ?_
    refine ite_imp (fun w => ?_) (fun w => ?_) w
    · refine g_iconst dX3_holds_67 ?_
      exact g_retZ dX3_holds_68 rfl (Or.inl rfl) w
    · refine g_iconst dX3_holds_63 ?_
      refine g_goto (tgt := 68) dX3_holds_64 rfl ?_
      exact g_retZ dX3_holds_68 rfl (Or.inr rfl) w
  by_cases hc1 : (band x0 255) = 14
  · have w := w1 hc1
    refine g_tabIn (tgt := 69) dX3_holds_11 o1 (by omega) (by omega) (by rw [hc1]; rfl) rfl ?_
    refine g_aload_n dX3_holds_69 rfl ?_
    refine g_iload_n dX3_holds_70 rfl ?_
    refine g_callVI (n := 1) (As := [aI x3]) (st := []) dX3_holds_71 ml_X3_93 sh_3 rfl (al_3 hn) rfl rfl (Nat.le_of_ble_eq_true rfl) (RtI.mono w (fun r1 h1 w => ?_))
    obtain ⟨o5, w⟩ := w
    refine g_if_eq (tgt := 81) dX3_holds_74 rfl o5 ?_
    refine ite_imp (fun w => ?_) (fun w => ?_) w
    · refine g_iconst dX3_holds_81 ?_
      exact g_retZ dX3_holds_82 rfl (Or.inl rfl) w
    · refine g_iconst dX3_holds_77 ?_
      refine g_goto (tgt := 82) dX3_holds_78 rfl ?_
      exact g_retZ dX3_holds_82 rfl (Or.inr rfl) w
  by_cases hc2 : (band x0 255) = 15
  · have w := w2 hc2
    refine g_tabIn (tgt := 83) dX3_holds_11 o1 (by omega) (by omega) (by rw [hc2]; rfl) rfl ?_
    refine g_aload_n dX3_holds_83 rfl ?_
    refine g_getR dX3_holds_84 fl_X3_96 sh_3 (al_3 hn) (fun _ _ _ => rfl) rf_3_2 ?_
    refine g_getR dX3_holds_87 fl_X3_100 sh_10 (al_10 hn) (fun _ _ _ => rfl) rf_10_1 ?_
    refine g_iload_n dX3_holds_90 rfl ?_
    obtain ⟨o6, w⟩ := w
    refine g_iald dX3_holds_91 sh_11 (al_11 hn) (Nat.le_of_ble_eq_true rfl) o6 ?_
    refine g_iconst dX3_holds_92 ?_
    obtain ⟨o7, w⟩ := w
    refine g_cmp_eq (tgt := 100) dX3_holds_93 rfl o7 (by decide) ?_
    refine ite_imp (fun w => ?_) (fun w => ?_) w
    · refine g_iconst dX3_holds_100 ?_
      exact g_retZ dX3_holds_101 rfl (Or.inl rfl) w
    · refine g_iconst dX3_holds_96 ?_
      refine g_goto (tgt := 101) dX3_holds_97 rfl ?_
      exact g_retZ dX3_holds_101 rfl (Or.inr rfl) w
  by_cases hc3 : (band x0 255) = 16
  · have w := w3 hc3
    refine g_tabIn (tgt := 117) dX3_holds_11 o1 (by omega) (by omega) (by rw [hc3]; rfl) rfl ?_
    exact g_sub (ls' := [aI x0, aU, aP 40, aI x3, aI (bshr x0 16)]) ⟨Or.inr rfl, Or.inl rfl, Or.inr rfl, Or.inr rfl, Or.inr rfl, trivial⟩ w
  by_cases hc4 : (band x0 255) = 17
  · have w := w4 hc4
    refine g_tabIn (tgt := 117) dX3_holds_11 o1 (by omega) (by omega) (by rw [hc4]; rfl) rfl ?_
    exact g_sub (ls' := [aI x0, aU, aP 40, aI x3, aI (bshr x0 16)]) ⟨Or.inr rfl, Or.inl rfl, Or.inr rfl, Or.inr rfl, Or.inr rfl, trivial⟩ w
  by_cases hc5 : (band x0 255) = 18
  · have w := w5 hc5
    refine g_tabIn (tgt := 117) dX3_holds_11 o1 (by omega) (by omega) (by rw [hc5]; rfl) rfl ?_
    exact g_sub (ls' := [aI x0, aU, aP 40, aI x3, aI (bshr x0 16)]) ⟨Or.inr rfl, Or.inl rfl, Or.inr rfl, Or.inr rfl, Or.inr rfl, trivial⟩ w
  by_cases hc6 : (band x0 255) = 19
  · have w := w6 hc6
    refine g_tabIn (tgt := 102) dX3_holds_11 o1 (by omega) (by omega) (by rw [hc6]; rfl) rfl ?_
    refine g_iload_n dX3_holds_102 rfl ?_
    refine g_iload_n dX3_holds_103 rfl ?_
    refine g_bipush dX3_holds_104 rfl ?_
    refine g_ishr dX3_holds_106 ?_
    refine g_sipush dX3_holds_107 rfl ?_
    refine g_iand dX3_holds_110 ?_
    refine g_iload dX3_holds_111 rfl ?_
    refine g_callSI (n := 3) (As := [aI x3, aI (band (bshr x0 8) 255), aI (bshr x0 16)]) (st := []) dX3_holds_113 ml_X3_105 rfl rfl (Nat.le_of_ble_eq_true rfl) rfl (RtI.mono w (fun r2 h2 w => ?_))
    obtain ⟨o8, w⟩ := w
    exact g_retZ dX3_holds_116 rfl o8 w
  omega
theorem e_X3_compares {l : Launch} {D : Nat} {ζ : ZP} {h : HI} {Q : Int → HI → Prop} {x0 x1 x2 : Int} (hn : 144 ≤ ζ.2.2.2.2) (w : (rg x1) ∧ (if ¬ x1 = 61 then (if ¬ x1 = 60 then ((rg x0) ∧ (rg x2) ∧ (if x0 ≤ x2 then (Q 0 h) else (Q 1 h))) else ((rg x0) ∧ (rg x2) ∧ (if x2 ≤ x0 then (Q 0 h) else (Q 1 h)))) else ((rg x0) ∧ (rg x2) ∧ (if ¬ x0 = x2 then (Q 0 h) else (Q 1 h))))) : RtI l (D + 1) mX3_compares (zz ζ) [aI x0, aI x1, aI x2] h Q := by
  refine RtI.of 0 pn_X3 [aI x0, aI x1, aI x2] rfl rfl ?_
  refine g_iload_n dX3_compares_0 rfl ?_
  refine g_bipush dX3_compares_1 rfl ?_
  obtain ⟨o1, w⟩ := w
  refine g_cmp_ne (tgt := 17) dX3_compares_3 rfl o1 (by decide) ?_
  refine ite_imp (fun w => ?_) (fun w => ?_) w
  · refine g_iload_n dX3_compares_17 rfl ?_
    refine g_bipush dX3_compares_18 rfl ?_
    refine g_cmp_ne (tgt := 36) dX3_compares_20 rfl o1 (by decide) ?_
    refine ite_imp (fun w => ?_) (fun w => ?_) w
    · refine g_iload_n dX3_compares_36 rfl ?_
      refine g_iload_n dX3_compares_37 rfl ?_
      obtain ⟨o2, w⟩ := w
      obtain ⟨o3, w⟩ := w
      refine g_cmp_le (tgt := 45) dX3_compares_38 rfl o2 o3 ?_
      refine ite_imp (fun w => ?_) (fun w => ?_) w
      · refine g_iconst dX3_compares_45 ?_
        exact g_retZ dX3_compares_46 rfl (Or.inl rfl) w
      · refine g_iconst dX3_compares_41 ?_
        refine g_goto (tgt := 46) dX3_compares_42 rfl ?_
        exact g_retZ dX3_compares_46 rfl (Or.inr rfl) w
    · refine g_iload_n dX3_compares_23 rfl ?_
      refine g_iload_n dX3_compares_24 rfl ?_
      obtain ⟨o4, w⟩ := w
      obtain ⟨o5, w⟩ := w
      refine g_cmp_ge (tgt := 32) dX3_compares_25 rfl o4 o5 ?_
      refine ite_imp (fun w => ?_) (fun w => ?_) w
      · refine g_iconst dX3_compares_32 ?_
        refine g_goto (tgt := 46) dX3_compares_33 rfl ?_
        exact g_retZ dX3_compares_46 rfl (Or.inl rfl) w
      · refine g_iconst dX3_compares_28 ?_
        refine g_goto (tgt := 46) dX3_compares_29 rfl ?_
        exact g_retZ dX3_compares_46 rfl (Or.inr rfl) w
  · refine g_iload_n dX3_compares_6 rfl ?_
    refine g_iload_n dX3_compares_7 rfl ?_
    obtain ⟨o6, w⟩ := w
    obtain ⟨o7, w⟩ := w
    refine g_cmp_ne (tgt := 15) dX3_compares_8 rfl o6 o7 ?_
    refine ite_imp (fun w => ?_) (fun w => ?_) w
    · refine g_iconst dX3_compares_15 ?_
      exact g_retZ dX3_compares_16 rfl (Or.inl rfl) w
    · refine g_iconst dX3_compares_11 ?_
      refine g_goto (tgt := 16) dX3_compares_12 rfl ?_
      exact g_retZ dX3_compares_16 rfl (Or.inr rfl) w
