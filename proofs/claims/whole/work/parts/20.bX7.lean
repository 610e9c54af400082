theorem b_X7_add_3 {l : Launch} {D : Nat} {ζ : ZP} {h : HI} {Q : HI → Prop} {x1 x2 : Int} (hn : 144 ≤ ζ.2.2.2.2) (w : (rg x2) ∧ (if x2 < 0 then (Q h) else ((rg (h 1 1)) ∧ (if 540 ≤ (h 1 1) then (Q h) else ((0 ≤ (h 1 1) ∧ (h 1 1) < 540) ∧ G l (D + 1) 0 0 mX7_add (zz ζ) 3 [aP 1, aI x1, aI (x2 + (-8))] [] (hu (hu h 2 (h 1 1) (b8 (b8 (bshr x1 x2)))) 1 1 ((h 1 1) + 1)) (qV (zz ζ) Q)))))) : G l (D + 1) 0 0 mX7_add (zz ζ) 3 [aP 1, aI x1, aI x2] [] h (qV (zz ζ) Q) := by
  refine g_iload_n dX7_add_3 rfl ?_
  obtain ⟨o1, w⟩ := w
  refine g_if_lt (tgt := 46) dX7_add_4 rfl o1 ?_
  refine ite_imp (fun w => ?_) (fun w => ?_) w
  · exact g_retV dX7_add_46 rfl w
  · refine g_aload_n dX7_add_7 rfl ?_
    refine g_getI (J := 1) dX7_add_8 fl_X7_19 sh_1 (al_1 hn) (fun _ _ _ => rfl) rfl ?_
    refine g_sipush dX7_add_11 rfl ?_
    obtain ⟨o2, w⟩ := w
    refine g_cmp_ge (tgt := 46) dX7_add_14 rfl o2 (by decide) ?_
    refine ite_imp (fun w => ?_) (fun w => ?_) w
    · exact g_retV dX7_add_46 rfl w
    · refine g_aload_n dX7_add_17 rfl ?_
      refine g_getR dX7_add_18 fl_X7_11 sh_1 (al_1 hn) (fun _ _ _ => rfl) rf_1_0 ?_
      refine g_aload_n dX7_add_21 rfl ?_
      refine g_getI (J := 1) dX7_add_22 fl_X7_19 sh_1 (al_1 hn) (fun _ _ _ => rfl) rfl ?_
      refine g_iload_n dX7_add_25 rfl ?_
      refine g_iload_n dX7_add_26 rfl ?_
      refine g_ishr dX7_add_27 ?_
      refine g_i2b dX7_add_28 ?_
      obtain ⟨o3, w⟩ := w
      refine g_bast dX7_add_29 sh_2 (al_2 hn) (Nat.le_of_ble_eq_true rfl) o3 ?_
      refine g_aload_n dX7_add_30 rfl ?_
      refine g_dup dX7_add_31 rfl ?_
      refine g_getI (J := 1) dX7_add_32 fl_X7_19 sh_1 (al_1 hn) (fun _ _ _ => rfl) rfl ?_
      refine g_iconst dX7_add_35 ?_
      refine g_iadd dX7_add_36 ?_
      refine g_putI (J := 1) dX7_add_37 fl_X7_19 sh_1 (al_1 hn) rfl rfl ?_
      refine g_iinc (ls' := [aP 1, aI x1, aI (x2 + (-8))]) dX7_add_40 rfl (Nat.le_of_ble_eq_true rfl) rfl rfl ?_
      refine g_goto (tgt := 3) dX7_add_43 rfl ?_
      exact g_sub (ls' := [aP 1, aI x1, aI (x2 + (-8))]) ⟨Or.inr rfl, Or.inr rfl, Or.inr rfl, trivial⟩ w
theorem e_X7_add {l : Launch} {D : Nat} {ζ : ZP} {h : HI} {Q : HI → Prop} {x1 : Int} (hn : 144 ≤ ζ.2.2.2.2) (w : G l (D + 1) 0 0 mX7_add (zz ζ) 3 [aP 1, aI x1, aI 24] [] h (qV (zz ζ) Q)) : RtV l (D + 1) mX7_add (zz ζ) [aP 1, aI x1] h Q := by
  refine RtV.of 1 pn_X7 [aP 1, aI x1, aU] rfl rfl ?_
  refine g_bipush dX7_add_0 rfl ?_
  refine g_istore_n (ls' := [aP 1, aI x1, aI 24]) dX7_add_2 (Nat.le_of_ble_eq_true rfl) rfl rfl ?_
  exact g_sub (ls' := [aP 1, aI x1, aI 24]) ⟨Or.inr rfl, Or.inr rfl, Or.inr rfl, trivial⟩ w
theorem e_X7_at {l : Launch} {D : Nat} {ζ : ZP} {h : HI} {Q : Int → HI → Prop} {x1 : Int} (hn : 144 ≤ ζ.2.2.2.2) (w : (rg x1) ∧ (if x1 < 0 then (Q (-1) h) else (if 540 ≤ x1 then (Q (-1) h) else ((0 ≤ x1 ∧ x1 < 540) ∧ Q (band (h 2 x1) 255) h)))) : RtI l (D + 1) mX7_at (zz ζ) [aP 1, aI x1] h Q := by
  refine RtI.of 0 pn_X7 [aP 1, aI x1] rfl rfl ?_
  refine g_iload_n dX7_at_0 rfl ?_
  obtain ⟨o1, w⟩ := w
  refine g_if_lt (tgt := 24) dX7_at_1 rfl o1 ?_
  refine ite_imp (fun w => ?_) (fun w => ?_) w
  · refine g_iconst dX7_at_24 ?_
    exact g_retI dX7_at_25 rfl w
  · refine g_iload_n dX7_at_4 rfl ?_
    refine g_sipush dX7_at_5 rfl ?_
    refine g_cmp_ge (tgt := 24) dX7_at_8 rfl o1 (by decide) ?_
    refine ite_imp (fun w => ?_) (fun w => ?_) w
    · refine g_iconst dX7_at_24 ?_
      exact g_retI dX7_at_25 rfl w
    · refine g_aload_n dX7_at_11 rfl ?_
      refine g_getR dX7_at_12 fl_X7_11 sh_1 (al_1 hn) (fun _ _ _ => rfl) rf_1_0 ?_
      refine g_iload_n dX7_at_15 rfl ?_
      obtain ⟨o2, w⟩ := w
      refine g_bald dX7_at_16 sh_2 (al_2 hn) (Nat.le_of_ble_eq_true rfl) o2 ?_
      refine g_sipush dX7_at_17 rfl ?_
      refine g_iand dX7_at_20 ?_
      refine g_goto (tgt := 25) dX7_at_21 rfl ?_
      exact g_retI dX7_at_25 rfl w
theorem e_X7_begin {l : Launch} {D : Nat} {ζ : ZP} {h : HI} {Q : HI → Prop} {x1 : Int} (hn : 144 ≤ ζ.2.2.2.2) (w : RtV l D mX7_step (zz ζ) [aP 1] (hu (hu (hu (hu h 1 2 x1) 1 3 0) 1 8 0) 1 9 0) (fun h1 => Q h1)) : RtV l (D + 1) mX7_begin (zz ζ) [aP 1, aI x1] h Q := by
  refine RtV.of 0 pn_X7 [aP 1, aI x1] rfl rfl ?_
  refine g_aload_n dX7_begin_0 rfl ?_
  refine g_iload_n dX7_begin_1 rfl ?_
  refine g_putI (J := 2) dX7_begin_2 fl_X7_22 sh_1 (al_1 hn) rfl rfl ?_
  refine g_aload_n dX7_begin_5 rfl ?_
  refine g_iconst dX7_begin_6 ?_
  refine g_putI (J := 3) dX7_begin_7 fl_X7_25 sh_1 (al_1 hn) rfl rfl ?_
  refine g_aload_n dX7_begin_10 rfl ?_
  refine g_iconst dX7_begin_11 ?_
  refine g_putI (J := 8) dX7_begin_12 fl_X7_28 sh_1 (al_1 hn) rfl rfl ?_
  refine g_aload_n dX7_begin_15 rfl ?_
  refine g_iconst dX7_begin_16 ?_
  refine g_putI (J := 9) dX7_begin_17 fl_X7_31 sh_1 (al_1 hn) rfl rfl ?_
  refine g_aload_n dX7_begin_20 rfl ?_
  refine g_callVV (n := 0) (As := []) (st := []) dX7_begin_21 ml_X7_34 sh_1 rfl (al_1 hn) rfl rfl (Nat.le_of_ble_eq_true rfl) (RtV.mono w (fun h1 w => ?_))
  exact g_retV dX7_begin_24 rfl w
theorem e_X7_refuse {l : Launch} {D : Nat} {ζ : ZP} {h : HI} {Q : Int → HI → Prop} {x1 : Int} (hn : 144 ≤ ζ.2.2.2.2) (w : Q 0 (hu (hu h 1 8 x1) 1 9 (h 1 5))) : RtI l (D + 1) mX7_refuse (zz ζ) [aP 1, aI x1] h Q := by
  refine RtI.of 0 pn_X7 [aP 1, aI x1] rfl rfl ?_
  refine g_aload_n dX7_refuse_0 rfl ?_
  refine g_iload_n dX7_refuse_1 rfl ?_
  refine g_putI (J := 8) dX7_refuse_2 fl_X7_28 sh_1 (al_1 hn) rfl rfl ?_
  refine g_aload_n dX7_refuse_5 rfl ?_
  refine g_aload_n dX7_refuse_6 rfl ?_
  refine g_getI (J := 5) dX7_refuse_7 fl_X7_37 sh_1 (al_1 hn) (fun _ _ _ => rfl) rfl ?_
  refine g_putI (J := 9) dX7_refuse_10 fl_X7_31 sh_1 (al_1 hn) rfl rfl ?_
  refine g_iconst dX7_refuse_13 ?_
  exact g_retZ dX7_refuse_14 rfl (Or.inl rfl) w
theorem e_X7_isName {l : Launch} {D : Nat} {ζ : ZP} {h : HI} {Q : Int → HI → Prop} (hn : 144 ≤ ζ.2.2.2.2) (w : (rg (h 1 4)) ∧ (if ¬ (h 1 4) = 2 then (Q 0 h) else ((rg (h 1 7)) ∧ (if ¬ (h 1 7) = (-1) then (Q 0 h) else (Q 1 h))))) : RtI l (D + 1) mX7_isName (zz ζ) [aP 1] h Q := by
  refine RtI.of 0 pn_X7 [aP 1] rfl rfl ?_
  refine g_aload_n dX7_isName_0 rfl ?_
  refine g_getI (J := 4) dX7_isName_1 fl_X7_40 sh_1 (al_1 hn) (fun _ _ _ => rfl) rfl ?_
  refine g_iconst dX7_isName_4 ?_
  obtain ⟨o1, w⟩ := w
  refine g_cmp_ne (tgt := 20) dX7_isName_5 rfl o1 (by decide) ?_
  refine ite_imp (fun w => ?_) (fun w => ?_) w
  · refine g_iconst dX7_isName_20 ?_
    exact g_retZ dX7_isName_21 rfl (Or.inl rfl) w
  · refine g_aload_n dX7_isName_8 rfl ?_
    refine g_getI (J := 7) dX7_isName_9 fl_X7_15 sh_1 (al_1 hn) (fun _ _ _ => rfl) rfl ?_
    refine g_iconst dX7_isName_12 ?_
    obtain ⟨o2, w⟩ := w
    refine g_cmp_ne (tgt := 20) dX7_isName_13 rfl o2 (by decide) ?_
    refine ite_imp (fun w => ?_) (fun w => ?_) w
    · refine g_iconst dX7_isName_20 ?_
      exact g_retZ dX7_isName_21 rfl (Or.inl rfl) w
    · refine g_iconst dX7_isName_16 ?_
      refine g_goto (tgt := 21) dX7_isName_17 rfl ?_
      exact g_retZ dX7_isName_21 rfl (Or.inr rfl) w
theorem e_X7_takeSign {l : Launch} {D : Nat} {ζ : ZP} {h : HI} {Q : Int → HI → Prop} {x1 : Int} (hn : 144 ≤ ζ.2.2.2.2) (w : (rg (h 1 4)) ∧ (rg x1) ∧ (if (h 1 4) = x1 then (RtV l D mX7_step (zz ζ) [aP 1] h (fun h1 => Q 1 h1)) else (RtI l D mX7_refuse (zz ζ) [aP 1, aI 1] h (fun r2 h2 => (r2 = 0 ∨ r2 = 1) ∧ Q r2 h2)))) : RtI l (D + 1) mX7_takeSign (zz ζ) [aP 1, aI x1] h Q := by
  refine RtI.of 0 pn_X7 [aP 1, aI x1] rfl rfl ?_
  refine g_aload_n dX7_takeSign_0 rfl ?_
  refine g_getI (J := 4) dX7_takeSign_1 fl_X7_40 sh_1 (al_1 hn) (fun _ _ _ => rfl) rfl ?_
  refine g_iload_n dX7_takeSign_4 rfl ?_
  obtain ⟨o1, w⟩ := w
  obtain ⟨o2, w⟩ := w
  refine g_cmp_eq (tgt := 14) dX7_takeSign_5 rfl o1 o2 ?_
  refine ite_imp (fun w => ?_) (fun w => ?_) w
  · refine g_aload_n dX7_takeSign_14 rfl ?_
    refine g_callVV (n := 0) (As := []) (st := []) dX7_takeSign_15 ml_X7_34 sh_1 rfl (al_1 hn) rfl rfl (Nat.le_of_ble_eq_true rfl) (RtV.mono w (fun h1 w => ?_))
    refine g_iconst dX7_takeSign_18 ?_
    exact g_retZ dX7_takeSign_19 rfl (Or.inr rfl) w
  · refine g_aload_n dX7_takeSign_8 rfl ?_
    refine g_iconst dX7_takeSign_9 ?_
    refine g_callVI (n := 1) (As := [aI 1]) (st := []) dX7_takeSign_10 ml_X7_43 sh_1 rfl (al_1 hn) rfl rfl (Nat.le_of_ble_eq_true rfl) (RtI.mono w (fun r2 h2 w => ?_))
    obtain ⟨o3, w⟩ := w
    exact g_retZ dX7_takeSign_13 rfl o3 w
theorem e_X7_isNumber {l : Launch} {D : Nat} {ζ : ZP} {h : HI} {Q : Int → HI → Prop} {x1 x2 : Int} (hn : 144 ≤ ζ.2.2.2.2) (w : (rg (h 1 4)) ∧ (if (h 1 4) = 3 then ((rg (h 1 6)) ∧ (rg x1) ∧ (if (h 1 6) < x1 then (RtI l D mX7_refuse (zz ζ) [aP 1, aI 2] h (fun r1 h1 => (rg r1) ∧ (if r1 = 0 then (Q 0 h1) else (Q 1 h1)))) else ((rg x2) ∧ (if (h 1 6) ≤ x2 then (Q 1 h) else (RtI l D mX7_refuse (zz ζ) [aP 1, aI 2] h (fun r2 h2 => (rg r2) ∧ (if r2 = 0 then (Q 0 h2) else (Q 1 h2)))))))) else (RtI l D mX7_refuse (zz ζ) [aP 1, aI 1] h (fun r3 h3 => (r3 = 0 ∨ r3 = 1) ∧ Q r3 h3)))) : RtI l (D + 1) mX7_isNumber (zz ζ) [aP 1, aI x1, aI x2] h Q := by
  refine RtI.of 0 pn_X7 [aP 1, aI x1, aI x2] rfl rfl ?_
  refine g_aload_n dX7_isNumber_0 rfl ?_
  refine g_getI (J := 4) dX7_isNumber_1 fl_X7_40 sh_1 (al_1 hn) (fun _ _ _ => rfl) rfl ?_
  refine g_iconst dX7_isNumber_4 ?_
  obtain ⟨o1, w⟩ := w
  refine g_cmp_eq (tgt := 14) dX7_isNumber_5 rfl o1 (by decide) ?_
  refine ite_imp (fun w => ?_) (fun w => ?_) w
  · refine g_aload_n dX7_isNumber_14 rfl ?_
    refine g_getI (J := 6) dX7_isNumber_15 fl_X7_47 sh_1 (al_1 hn) (fun _ _ _ => rfl) rfl ?_
    refine g_iload_n dX7_isNumber_18 rfl ?_
    obtain ⟨o2, w⟩ := w
    obtain ⟨o3, w⟩ := w
    refine g_cmp_lt (tgt := 30) dX7_isNumber_19 rfl o2 o3 ?_
    refine ite_imp (fun w => ?_) (fun w => ?_) w
    · refine g_aload_n dX7_isNumber_30 rfl ?_
      refine g_iconst dX7_isNumber_31 ?_
      refine g_callVI (n := 1) (As := [aI 2]) (st := []) dX7_isNumber_32 ml_X7_43 sh_1 rfl (al_1 hn) rfl rfl (Nat.le_of_ble_eq_true rfl) (RtI.mono w (fun r1 h1 w => ?_))
      obtain ⟨o4, w⟩ := w
      refine g_if_eq (tgt := 42) dX7_isNumber_35 rfl o4 ?_
      refine ite_imp (fun w => ?_) (fun w => ?_) w
      · refine g_iconst dX7_isNumber_42 ?_
        exact g_retZ dX7_isNumber_43 rfl (Or.inl rfl) w
      · refine g_iconst dX7_isNumber_38 ?_
        refine g_goto (tgt := 43) dX7_isNumber_39 rfl ?_
        exact g_retZ dX7_isNumber_43 rfl (Or.inr rfl) w
    · refine g_aload_n dX7_isNumber_22 rfl ?_
      refine g_getI (J := 6) dX7_isNumber_23 fl_X7_47 sh_1 (al_1 hn) (fun _ _ _ => rfl) rfl ?_
      refine g_iload_n dX7_isNumber_26 rfl ?_
      obtain ⟨o5, w⟩ := w
      refine g_cmp_le (tgt := 38) dX7_isNumber_27 rfl o2 o5 ?_
      refine ite_imp (fun w => ?_) (fun w => ?_) w
      · refine g_iconst dX7_isNumber_38 ?_
        refine g_goto (tgt := 43) dX7_isNumber_39 rfl ?_
        exact g_retZ dX7_isNumber_43 rfl (Or.inr rfl) w
      · refine g_aload_n dX7_isNumber_30 rfl ?_
        refine g_iconst dX7_isNumber_31 ?_
        refine g_callVI (n := 1) (As := [aI 2]) (st := []) dX7_isNumber_32 ml_X7_43 sh_1 rfl (al_1 hn) rfl rfl (Nat.le_of_ble_eq_true rfl) (RtI.mono w (fun r2 h2 w => ?_))
        obtain ⟨o6, w⟩ := w
        refine g_if_eq (tgt := 42) dX7_isNumber_35 rfl o6 ?_
        refine ite_imp (fun w => ?_) (fun w => ?_) w
        · refine g_iconst dX7_isNumber_42 ?_
          exact g_retZ dX7_isNumber_43 rfl (Or.inl rfl) w
        · refine g_iconst dX7_isNumber_38 ?_
          refine g_goto (tgt := 43) dX7_isNumber_39 rfl ?_
          exact g_retZ dX7_isNumber_43 rfl (Or.inr rfl) w
  · refine g_aload_n dX7_isNumber_8 rfl ?_
    refine g_iconst dX7_isNumber_9 ?_
    refine g_callVI (n := 1) (As := [aI 1]) (st := []) dX7_isNumber_10 ml_X7_43 sh_1 rfl (al_1 hn) rfl rfl (Nat.le_of_ble_eq_true rfl) (RtI.mono w (fun r3 h3 w => ?_))
    obtain ⟨o7, w⟩ := w
    exact g_retZ dX7_isNumber_13 rfl o7 w
theorem b_X7_step_0 {l : Launch} {D : Nat} {ζ : ZP} {h : HI} {Q : HI → Prop} (hn : 144 ≤ ζ.2.2.2.2) (w : (rg (h 1 3)) ∧ (rg (h 1 1)) ∧ (if (h 1 1) ≤ (h 1 3) then ((rg (h 1 2)) ∧ (if (h 1 1) ≤ (h 1 2) then (G l (D + 1) 0 0 mX7_step (zz ζ) 100 [aP 1] [] (hu (hu h 1 7 (-1)) 1 6 0) (qV (zz ζ) Q)) else (if (h 1 3) < (h 1 2) then (G l (D + 1) 0 0 mX7_step (zz ζ) 100 [aP 1] [] (hu (hu h 1 7 (-1)) 1 6 0) (qV (zz ζ) Q)) else (Q (hu (hu (hu (hu h 1 7 (-1)) 1 6 0) 1 4 1) 1 5 (h 1 2)))))) else ((0 ≤ (h 1 3) ∧ (h 1 3) < 540) ∧ (rg (h 2 (h 1 3))) ∧ (if (h 2 (h 1 3)) = 32 then (G l (D + 1) 0 0 mX7_step (zz ζ) 0 [aP 1] [] (hu h 1 3 ((h 1 3) + 1)) (qV (zz ζ) Q)) else (if ¬ (h 2 (h 1 3)) = 10 then ((rg (h 1 2)) ∧ (if (h 1 1) ≤ (h 1 2) then (G l (D + 1) 0 0 mX7_step (zz ζ) 100 [aP 1] [] (hu (hu h 1 7 (-1)) 1 6 0) (qV (zz ζ) Q)) else (if (h 1 3) < (h 1 2) then (G l (D + 1) 0 0 mX7_step (zz ζ) 100 [aP 1] [] (hu (hu h 1 7 (-1)) 1 6 0) (qV (zz ζ) Q)) else (Q (hu (hu (hu (hu h 1 7 (-1)) 1 6 0) 1 4 1) 1 5 (h 1 2)))))) else (G l (D + 1) 0 0 mX7_step (zz ζ) 0 [aP 1] [] (hu h 1 3 ((h 1 3) + 1)) (qV (zz ζ) Q))))))) : G l (D + 1) 0 0 mX7_step (zz ζ) 0 [aP 1] [] h (qV (zz ζ) Q) := by
  refine g_aload_n dX7_step_0 rfl ?_
  refine g_getI (J := 3) dX7_step_1 fl_X7_25 sh_1 (al_1 hn) (fun _ _ _ => rfl) rfl ?_
  refine g_aload_n dX7_step_4 rfl ?_
  refine g_getI (J := 1) dX7_step_5 fl_X7_19 sh_1 (al_1 hn) (fun _ _ _ => rfl) rfl ?_
  obtain ⟨o1, w⟩ := w
  obtain ⟨o2, w⟩ := w
  refine g_cmp_ge (tgt := 52) dX7_step_8 rfl o1 o2 ?_
  refine ite_imp (fun w => ?_) (fun w => ?_) w
  · refine g_aload_n dX7_step_52 rfl ?_
    refine g_iconst dX7_step_53 ?_
    refine g_putI (J := 7) dX7_step_54 fl_X7_15 sh_1 (al_1 hn) rfl rfl ?_
    refine g_aload_n dX7_step_57 rfl ?_
    refine g_iconst dX7_step_58 ?_
    refine g_putI (J := 6) dX7_step_59 fl_X7_47 sh_1 (al_1 hn) rfl rfl ?_
    refine g_aload_n dX7_step_62 rfl ?_
    refine g_getI (J := 1) dX7_step_63 fl_X7_19 sh_1 (al_1 hn) (fun _ _ _ => rfl) rfl ?_
    refine g_aload_n dX7_step_66 rfl ?_
    refine g_getI (J := 2) dX7_step_67 fl_X7_22 sh_1 (al_1 hn) (fun _ _ _ => rfl) rfl ?_
    obtain ⟨o3, w⟩ := w
    refine g_cmp_le (tgt := 100) dX7_step_70 rfl o2 o3 ?_
    refine ite_imp (fun w => ?_) (fun w => ?_) w
    · exact g_sub (ls' := [aP 1]) ⟨Or.inr rfl, trivial⟩ w
    · refine g_aload_n dX7_step_73 rfl ?_
      refine g_getI (J := 3) dX7_step_74 fl_X7_25 sh_1 (al_1 hn) (fun _ _ _ => rfl) rfl ?_
      refine g_aload_n dX7_step_77 rfl ?_
      refine g_getI (J := 2) dX7_step_78 fl_X7_22 sh_1 (al_1 hn) (fun _ _ _ => rfl) rfl ?_
      refine g_cmp_lt (tgt := 100) dX7_step_81 rfl o1 o3 ?_
      refine ite_imp (fun w => ?_) (fun w => ?_) w
      · exact g_sub (ls' := [aP 1]) ⟨Or.inr rfl, trivial⟩ w
      · refine g_aload_n dX7_step_84 rfl ?_
        refine g_iconst dX7_step_85 ?_
        refine g_putI (J := 4) dX7_step_86 fl_X7_40 sh_1 (al_1 hn) rfl rfl ?_
        refine g_aload_n dX7_step_89 rfl ?_
        refine g_aload_n dX7_step_90 rfl ?_
        refine g_getI (J := 2) dX7_step_91 fl_X7_22 sh_1 (al_1 hn) (fun _ _ _ => rfl) rfl ?_
        refine g_putI (J := 5) dX7_step_94 fl_X7_37 sh_1 (al_1 hn) rfl rfl ?_
        refine g_goto (tgt := 162) dX7_step_97 rfl ?_
        exact g_retV dX7_step_162 rfl w
  · refine g_aload_n dX7_step_11 rfl ?_
    refine g_getR dX7_step_12 fl_X7_11 sh_1 (al_1 hn) (fun _ _ _ => rfl) rf_1_0 ?_
    refine g_aload_n dX7_step_15 rfl ?_
    refine g_getI (J := 3) dX7_step_16 fl_X7_25 sh_1 (al_1 hn) (fun _ _ _ => rfl) rfl ?_
    obtain ⟨o4, w⟩ := w
    refine g_bald dX7_step_19 sh_2 (al_2 hn) (Nat.le_of_ble_eq_true rfl) o4 ?_
    refine g_bipush dX7_step_20 rfl ?_
    obtain ⟨o5, w⟩ := w
    refine g_cmp_eq (tgt := 39) dX7_step_22 rfl o5 (by decide) ?_
    refine ite_imp (fun w => ?_) (fun w => ?_) w
    · refine g_aload_n dX7_step_39 rfl ?_
      refine g_dup dX7_step_40 rfl ?_
      refine g_getI (J := 3) dX7_step_41 fl_X7_25 sh_1 (al_1 hn) (fun _ _ _ => rfl) rfl ?_
      refine g_iconst dX7_step_44 ?_
      refine g_iadd dX7_step_45 ?_
      refine g_putI (J := 3) dX7_step_46 fl_X7_25 sh_1 (al_1 hn) rfl rfl ?_
      refine g_goto (tgt := 0) dX7_step_49 rfl ?_
      exact g_sub (ls' := [aP 1]) ⟨Or.inr rfl, trivial⟩ w
    · refine g_aload_n dX7_step_25 rfl ?_
      refine g_getR dX7_step_26 fl_X7_11 sh_1 (al_1 hn) (fun _ _ _ => rfl) rf_1_0 ?_
      refine g_aload_n dX7_step_29 rfl ?_
      refine g_getI (J := 3) dX7_step_30 fl_X7_25 sh_1 (al_1 hn) (fun _ _ _ => rfl) rfl ?_
      refine g_bald dX7_step_33 sh_2 (al_2 hn) (Nat.le_of_ble_eq_true rfl) o4 ?_
      refine g_bipush dX7_step_34 rfl ?_
      refine g_cmp_ne (tgt := 52) dX7_step_36 rfl o5 (by decide) ?_
      refine ite_imp (fun w => ?_) (fun w => ?_) w
      · refine g_aload_n dX7_step_52 rfl ?_
        refine g_iconst dX7_step_53 ?_
        refine g_putI (J := 7) dX7_step_54 fl_X7_15 sh_1 (al_1 hn) rfl rfl ?_
        refine g_aload_n dX7_step_57 rfl ?_
        refine g_iconst dX7_step_58 ?_
        refine g_putI (J := 6) dX7_step_59 fl_X7_47 sh_1 (al_1 hn) rfl rfl ?_
        refine g_aload_n dX7_step_62 rfl ?_
        refine g_getI (J := 1) dX7_step_63 fl_X7_19 sh_1 (al_1 hn) (fun _ _ _ => rfl) rfl ?_
        refine g_aload_n dX7_step_66 rfl ?_
        refine g_getI (J := 2) dX7_step_67 fl_X7_22 sh_1 (al_1 hn) (fun _ _ _ => rfl) rfl ?_
        obtain ⟨o6, w⟩ := w
        refine g_cmp_le (tgt := 100) dX7_step_70 rfl o2 o6 ?_
        refine ite_imp (fun w => ?_) (fun w => ?_) w
        · exact g_sub (ls' := [aP 1]) ⟨Or.inr rfl, trivial⟩ w
        · refine g_aload_n dX7_step_73 rfl ?_
          refine g_getI (J := 3) dX7_step_74 fl_X7_25 sh_1 (al_1 hn) (fun _ _ _ => rfl) rfl ?_
          refine g_aload_n dX7_step_77 rfl ?_
          refine g_getI (J := 2) dX7_step_78 fl_X7_22 sh_1 (al_1 hn) (fun _ _ _ => rfl) rfl ?_
          refine g_cmp_lt (tgt := 100) dX7_step_81 rfl o1 o6 ?_
          refine ite_imp (fun w => ?_) (fun w => ?_) w
          · exact g_sub (ls' := [aP 1]) ⟨Or.inr rfl, trivial⟩ w
          · refine g_aload_n dX7_step_84 rfl ?_
            refine g_iconst dX7_step_85 ?_
            refine g_putI (J := 4) dX7_step_86 fl_X7_40 sh_1 (al_1 hn) rfl rfl ?_
            refine g_aload_n dX7_step_89 rfl ?_
            refine g_aload_n dX7_step_90 rfl ?_
            refine g_getI (J := 2) dX7_step_91 fl_X7_22 sh_1 (al_1 hn) (fun _ _ _ => rfl) rfl ?_
            refine g_putI (J := 5) dX7_step_94 fl_X7_37 sh_1 (al_1 hn) rfl rfl ?_
            refine g_goto (tgt := 162) dX7_step_97 rfl ?_
            exact g_retV dX7_step_162 rfl w
      · refine g_aload_n dX7_step_39 rfl ?_
        refine g_dup dX7_step_40 rfl ?_
        refine g_getI (J := 3) dX7_step_41 fl_X7_25 sh_1 (al_1 hn) (fun _ _ _ => rfl) rfl ?_
        refine g_iconst dX7_step_44 ?_
        refine g_iadd dX7_step_45 ?_
        refine g_putI (J := 3) dX7_step_46 fl_X7_25 sh_1 (al_1 hn) rfl rfl ?_
        refine g_goto (tgt := 0) dX7_step_49 rfl ?_
        exact g_sub (ls' := [aP 1]) ⟨Or.inr rfl, trivial⟩ w
theorem b_X7_step_100 {l : Launch} {D : Nat} {ζ : ZP} {h : HI} {Q : HI → Prop} (hn : 144 ≤ ζ.2.2.2.2) (w : (rg (h 1 3)) ∧ (rg (h 1 1)) ∧ (if (h 1 3) < (h 1 1) then (RtV l D mX7_stepOver (zz ζ) [aP 1] (hu h 1 5 (h 1 3)) (fun h1 => (rg (h1 1 4)) ∧ (if ¬ (h1 1 4) = 2 then (Q (hu h1 1 7 (-1))) else (RtI l D mX7_wordOf (zz ζ) [aI (h1 1 6)] h1 (fun r2 h2 => Q (hu h2 1 7 r2)))))) else (Q (hu (hu h 1 4 0) 1 5 (h 1 1))))) : G l (D + 1) 0 0 mX7_step (zz ζ) 100 [aP 1] [] h (qV (zz ζ) Q) := by
  refine g_aload_n dX7_step_100 rfl ?_
  refine g_getI (J := 3) dX7_step_101 fl_X7_25 sh_1 (al_1 hn) (fun _ _ _ => rfl) rfl ?_
  refine g_aload_n dX7_step_104 rfl ?_
  refine g_getI (J := 1) dX7_step_105 fl_X7_19 sh_1 (al_1 hn) (fun _ _ _ => rfl) rfl ?_
  obtain ⟨o1, w⟩ := w
  obtain ⟨o2, w⟩ := w
  refine g_cmp_lt (tgt := 127) dX7_step_108 rfl o1 o2 ?_
  refine ite_imp (fun w => ?_) (fun w => ?_) w
  · refine g_aload_n dX7_step_127 rfl ?_
    refine g_aload_n dX7_step_128 rfl ?_
    refine g_getI (J := 3) dX7_step_129 fl_X7_25 sh_1 (al_1 hn) (fun _ _ _ => rfl) rfl ?_
    refine g_putI (J := 5) dX7_step_132 fl_X7_37 sh_1 (al_1 hn) rfl rfl ?_
    refine g_aload_n dX7_step_135 rfl ?_
    refine g_callVV (n := 0) (As := []) (st := []) dX7_step_136 ml_X7_50 sh_1 rfl (al_1 hn) rfl rfl (Nat.le_of_ble_eq_true rfl) (RtV.mono w (fun h1 w => ?_))
    refine g_aload_n dX7_step_139 rfl ?_
    refine g_aload_n dX7_step_140 rfl ?_
    refine g_getI (J := 4) dX7_step_141 fl_X7_40 sh_1 (al_1 hn) (fun _ _ _ => rfl) rfl ?_
    refine g_iconst dX7_step_144 ?_
    obtain ⟨o3, w⟩ := w
    refine g_cmp_ne (tgt := 158) dX7_step_145 rfl o3 (by decide) ?_
    refine ite_imp (fun w => ?_) (fun w => ?_) w
    · refine g_iconst dX7_step_158 ?_
      refine g_putI (J := 7) dX7_step_159 fl_X7_15 sh_1 (al_1 hn) rfl rfl ?_
      exact g_retV dX7_step_162 rfl w
    · refine g_aload_n dX7_step_148 rfl ?_
      refine g_getI (J := 6) dX7_step_149 fl_X7_47 sh_1 (al_1 hn) (fun _ _ _ => rfl) rfl ?_
      refine g_callSI (n := 1) (As := [aI (h1 1 6)]) (st := [aP 1]) dX7_step_152 ml_X7_53 rfl rfl (Nat.le_of_ble_eq_true rfl) rfl (RtI.mono w (fun r2 h2 w => ?_))
      refine g_goto (tgt := 159) dX7_step_155 rfl ?_
      refine g_putI (J := 7) dX7_step_159 fl_X7_15 sh_1 (al_1 hn) rfl rfl ?_
      exact g_retV dX7_step_162 rfl w
  · refine g_aload_n dX7_step_111 rfl ?_
    refine g_iconst dX7_step_112 ?_
    refine g_putI (J := 4) dX7_step_113 fl_X7_40 sh_1 (al_1 hn) rfl rfl ?_
    refine g_aload_n dX7_step_116 rfl ?_
    refine g_aload_n dX7_step_117 rfl ?_
    refine g_getI (J := 1) dX7_step_118 fl_X7_19 sh_1 (al_1 hn) (fun _ _ _ => rfl) rfl ?_
    refine g_putI (J := 5) dX7_step_121 fl_X7_37 sh_1 (al_1 hn) rfl rfl ?_
    refine g_goto (tgt := 162) dX7_step_124 rfl ?_
    exact g_retV dX7_step_162 rfl w
theorem e_X7_step {l : Launch} {D : Nat} {ζ : ZP} {h : HI} {Q : HI → Prop} (hn : 144 ≤ ζ.2.2.2.2) (w : G l (D + 1) 0 0 mX7_step (zz ζ) 0 [aP 1] [] h (qV (zz ζ) Q)) : RtV l (D + 1) mX7_step (zz ζ) [aP 1] h Q := by
  refine RtV.of 0 pn_X7 [aP 1] rfl rfl ?_
  exact g_sub (ls' := [aP 1]) ⟨Or.inr rfl, trivial⟩ w
theorem b_X7_stepOver_14 {l : Launch} {D : Nat} {ζ : ZP} {h : HI} {Q : HI → Prop} {x1 x2 x3 : Int} (hn : 144 ≤ ζ.2.2.2.2) (w : (rg (h 1 3)) ∧ (rg (h 1 1)) ∧ (if (h 1 1) ≤ (h 1 3) then (G l (D + 1) 0 0 mX7_stepOver (zz ζ) 122 [aP 1, aI x1, aI x2, aI x3, aU] [] h (qV (zz ζ) Q)) else ((0 ≤ (h 1 3) ∧ (h 1 3) < 540) ∧ (rg (h 2 (h 1 3))) ∧ (if (h 2 (h 1 3)) < 48 then (if (h 2 (h 1 3)) < 97 then (G l (D + 1) 0 0 mX7_stepOver (zz ζ) 122 [aP 1, aI x1, aI x2, aI x3, aU] [] h (qV (zz ζ) Q)) else (if 122 < (h 2 (h 1 3)) then (G l (D + 1) 0 0 mX7_stepOver (zz ζ) 122 [aP 1, aI x1, aI x2, aI x3, aU] [] h (qV (zz ζ) Q)) else (G l (D + 1) 0 0 mX7_stepOver (zz ζ) 14 [aP 1, aI x1, aI (x2 + 1), aI x3, aU] [] (hu (hu h 1 6 (((((h 1 6) * 32) + (h 2 (h 1 3))) - 97) + 1)) 1 3 ((h 1 3) + 1)) (qV (zz ζ) Q)))) else (if 57 < (h 2 (h 1 3)) then (if (h 2 (h 1 3)) < 97 then (G l (D + 1) 0 0 mX7_stepOver (zz ζ) 122 [aP 1, aI x1, aI x2, aI x3, aU] [] h (qV (zz ζ) Q)) else (if 122 < (h 2 (h 1 3)) then (G l (D + 1) 0 0 mX7_stepOver (zz ζ) 122 [aP 1, aI x1, aI x2, aI x3, aU] [] h (qV (zz ζ) Q)) else (G l (D + 1) 0 0 mX7_stepOver (zz ζ) 14 [aP 1, aI x1, aI (x2 + 1), aI x3, aU] [] (hu (hu h 1 6 (((((h 1 6) * 32) + (h 2 (h 1 3))) - 97) + 1)) 1 3 ((h 1 3) + 1)) (qV (zz ζ) Q)))) else (G l (D + 1) 0 0 mX7_stepOver (zz ζ) 14 [aP 1, aI x1, aI x2, aI (x3 + 1), aU] [] (hu (hu h 1 6 ((((h 1 6) * 10) + (h 2 (h 1 3))) - 48)) 1 3 ((h 1 3) + 1)) (qV (zz ζ) Q))))))) : G l (D + 1) 0 0 mX7_stepOver (zz ζ) 14 [aP 1, aI x1, aI x2, aI x3, aU] [] h (qV (zz ζ) Q) := by
  refine g_aload_n dX7_stepOver_14 rfl ?_
  refine g_getI (J := 3) dX7_stepOver_15 fl_X7_25 sh_1 (al_1 hn) (fun _ _ _ => rfl) rfl ?_
  refine g_aload_n dX7_stepOver_18 rfl ?_
  refine g_getI (J := 1) dX7_stepOver_19 fl_X7_19 sh_1 (al_1 hn) (fun _ _ _ => rfl) rfl ?_
  obtain ⟨o1, w⟩ := w
  obtain ⟨o2, w⟩ := w
  refine g_cmp_ge (tgt := 122) dX7_stepOver_22 rfl o1 o2 ?_
  refine ite_imp (fun w => ?_) (fun w => ?_) w
  · exact g_sub (ls' := [aP 1, aI x1, aI x2, aI x3, aU]) ⟨Or.inr rfl, Or.inr rfl, Or.inr rfl, Or.inr rfl, Or.inl rfl, trivial⟩ w
  · refine g_aload_n dX7_stepOver_25 rfl ?_
    refine g_getR dX7_stepOver_26 fl_X7_11 sh_1 (al_1 hn) (fun _ _ _ => rfl) rf_1_0 ?_
    refine g_aload_n dX7_stepOver_29 rfl ?_
    refine g_getI (J := 3) dX7_stepOver_30 fl_X7_25 sh_1 (al_1 hn) (fun _ _ _ => rfl) rfl ?_
    obtain ⟨o3, w⟩ := w
    refine g_bald dX7_stepOver_33 sh_2 (al_2 hn) (Nat.le_of_ble_eq_true rfl) o3 ?_
    refine g_istore (ls' := [aP 1, aI x1, aI x2, aI x3, aI (h 2 (h 1 3))]) dX7_stepOver_34 (Nat.le_of_ble_eq_true rfl) rfl rfl ?_
    refine g_iload dX7_stepOver_36 rfl ?_
    refine g_bipush dX7_stepOver_38 rfl ?_
    obtain ⟨o4, w⟩ := w
    refine g_cmp_lt (tgt := 73) dX7_stepOver_40 rfl o4 (by decide) ?_
    refine ite_imp (fun w => ?_) (fun w => ?_) w
    · refine g_iload dX7_stepOver_73 rfl ?_
      refine g_bipush dX7_stepOver_75 rfl ?_
      refine g_cmp_lt (tgt := 122) dX7_stepOver_77 rfl o4 (by decide) ?_
      refine ite_imp (fun w => ?_) (fun w => ?_) w
      · exact g_sub (ls' := [aP 1, aI x1, aI x2, aI x3, aU]) ⟨Or.inr rfl, Or.inr rfl, Or.inr rfl, Or.inr rfl, Or.inl rfl, trivial⟩ w
      · refine g_iload dX7_stepOver_80 rfl ?_
        refine g_bipush dX7_stepOver_82 rfl ?_
        refine g_cmp_gt (tgt := 122) dX7_stepOver_84 rfl o4 (by decide) ?_
        refine ite_imp (fun w => ?_) (fun w => ?_) w
        · exact g_sub (ls' := [aP 1, aI x1, aI x2, aI x3, aU]) ⟨Or.inr rfl, Or.inr rfl, Or.inr rfl, Or.inr rfl, Or.inl rfl, trivial⟩ w
        · refine g_iinc (ls' := [aP 1, aI x1, aI (x2 + 1), aI x3, aI (h 2 (h 1 3))]) dX7_stepOver_87 rfl (Nat.le_of_ble_eq_true rfl) rfl rfl ?_
          refine g_aload_n dX7_stepOver_90 rfl ?_
          refine g_aload_n dX7_stepOver_91 rfl ?_
          refine g_getI (J := 6) dX7_stepOver_92 fl_X7_47 sh_1 (al_1 hn) (fun _ _ _ => rfl) rfl ?_
          refine g_bipush dX7_stepOver_95 rfl ?_
          refine g_imul dX7_stepOver_97 ?_
          refine g_iload dX7_stepOver_98 rfl ?_
          refine g_iadd dX7_stepOver_100 ?_
          refine g_bipush dX7_stepOver_101 rfl ?_
          refine g_isub dX7_stepOver_103 ?_
          refine g_iconst dX7_stepOver_104 ?_
          refine g_iadd dX7_stepOver_105 ?_
          refine g_putI (J := 6) dX7_stepOver_106 fl_X7_47 sh_1 (al_1 hn) rfl rfl ?_
          refine g_aload_n dX7_stepOver_109 rfl ?_
          refine g_dup dX7_stepOver_110 rfl ?_
          refine g_getI (J := 3) dX7_stepOver_111 fl_X7_25 sh_1 (al_1 hn) (fun _ _ _ => rfl) rfl ?_
          refine g_iconst dX7_stepOver_114 ?_
          refine g_iadd dX7_stepOver_115 ?_
          refine g_putI (J := 3) dX7_stepOver_116 fl_X7_25 sh_1 (al_1 hn) rfl rfl ?_
          refine g_goto (tgt := 14) dX7_stepOver_119 rfl ?_
          exact g_sub (ls' := [aP 1, aI x1, aI (x2 + 1), aI x3, aU]) ⟨Or.inr rfl, Or.inr rfl, Or.inr rfl, Or.inr rfl, Or.inl rfl, trivial⟩ w
    · refine g_iload dX7_stepOver_43 rfl ?_
      refine g_bipush dX7_stepOver_45 rfl ?_
      refine g_cmp_gt (tgt := 73) dX7_stepOver_47 rfl o4 (by decide) ?_
      refine ite_imp (fun w => ?_) (fun w => ?_) w
      · refine g_iload dX7_stepOver_73 rfl ?_
        refine g_bipush dX7_stepOver_75 rfl ?_
        refine g_cmp_lt (tgt := 122) dX7_stepOver_77 rfl o4 (by decide) ?_
        refine ite_imp (fun w => ?_) (fun w => ?_) w
        · exact g_sub (ls' := [aP 1, aI x1, aI x2, aI x3, aU]) ⟨Or.inr rfl, Or.inr rfl, Or.inr rfl, Or.inr rfl, Or.inl rfl, trivial⟩ w
        · refine g_iload dX7_stepOver_80 rfl ?_
          refine g_bipush dX7_stepOver_82 rfl ?_
          refine g_cmp_gt (tgt := 122) dX7_stepOver_84 rfl o4 (by decide) ?_
          refine ite_imp (fun w => ?_) (fun w => ?_) w
          · exact g_sub (ls' := [aP 1, aI x1, aI x2, aI x3, aU]) ⟨Or.inr rfl, Or.inr rfl, Or.inr rfl, Or.inr rfl, Or.inl rfl, trivial⟩ w
          · refine g_iinc (ls' := [aP 1, aI x1, aI (x2 + 1), aI x3, aI (h 2 (h 1 3))]) dX7_stepOver_87 rfl (Nat.le_of_ble_eq_true rfl) rfl rfl ?_
            refine g_aload_n dX7_stepOver_90 rfl ?_
            refine g_aload_n dX7_stepOver_91 rfl ?_
            refine g_getI (J := 6) dX7_stepOver_92 fl_X7_47 sh_1 (al_1 hn) (fun _ _ _ => rfl) rfl ?_
            refine g_bipush dX7_stepOver_95 rfl ?_
            refine g_imul dX7_stepOver_97 ?_
            refine g_iload dX7_stepOver_98 rfl ?_
            refine g_iadd dX7_stepOver_100 ?_
            refine g_bipush dX7_stepOver_101 rfl ?_
            refine g_isub dX7_stepOver_103 ?_
            refine g_iconst dX7_stepOver_104 ?_
            refine g_iadd dX7_stepOver_105 ?_
            refine g_putI (J := 6) dX7_stepOver_106 fl_X7_47 sh_1 (al_1 hn) rfl rfl ?_
            refine g_aload_n dX7_stepOver_109 rfl ?_
            refine g_dup dX7_stepOver_110 rfl ?_
            refine g_getI (J := 3) dX7_stepOver_111 fl_X7_25 sh_1 (al_1 hn) (fun _ _ _ => rfl) rfl ?_
            refine g_iconst dX7_stepOver_114 ?_
            refine g_iadd dX7_stepOver_115 ?_
            refine g_putI (J := 3) dX7_stepOver_116 fl_X7_25 sh_1 (al_1 hn) rfl rfl ?_
            refine g_goto (tgt := 14) dX7_stepOver_119 rfl ?_
            exact g_sub (ls' := [aP 1, aI x1, aI (x2 + 1), aI x3, aU]) ⟨Or.inr rfl, Or.inr rfl, Or.inr rfl, Or.inr rfl, Or.inl rfl, trivial⟩ w
      · refine g_iinc (ls' := [aP 1, aI x1, aI x2, aI (x3 + 1), aI (h 2 (h 1 3))]) dX7_stepOver_50 rfl (Nat.le_of_ble_eq_true rfl) rfl rfl ?_
        refine g_aload_n dX7_stepOver_53 rfl ?_
        refine g_aload_n dX7_stepOver_54 rfl ?_
        refine g_getI (J := 6) dX7_stepOver_55 fl_X7_47 sh_1 (al_1 hn) (fun _ _ _ => rfl) rfl ?_
        refine g_bipush dX7_stepOver_58 rfl ?_
        refine g_imul dX7_stepOver_60 ?_
        refine g_iload dX7_stepOver_61 rfl ?_
        refine g_iadd dX7_stepOver_63 ?_
        refine g_bipush dX7_stepOver_64 rfl ?_
        refine g_isub dX7_stepOver_66 ?_
        refine g_putI (J := 6) dX7_stepOver_67 fl_X7_47 sh_1 (al_1 hn) rfl rfl ?_
        refine g_goto (tgt := 109) dX7_stepOver_70 rfl ?_
        refine g_aload_n dX7_stepOver_109 rfl ?_
        refine g_dup dX7_stepOver_110 rfl ?_
        refine g_getI (J := 3) dX7_stepOver_111 fl_X7_25 sh_1 (al_1 hn) (fun _ _ _ => rfl) rfl ?_
        refine g_iconst dX7_stepOver_114 ?_
        refine g_iadd dX7_stepOver_115 ?_
        refine g_putI (J := 3) dX7_stepOver_116 fl_X7_25 sh_1 (al_1 hn) rfl rfl ?_
        refine g_goto (tgt := 14) dX7_stepOver_119 rfl ?_
        exact g_sub (ls' := [aP 1, aI x1, aI x2, aI (x3 + 1), aU]) ⟨Or.inr rfl, Or.inr rfl, Or.inr rfl, Or.inr rfl, Or.inl rfl, trivial⟩ w
theorem b_X7_stepOver_122 {l : Launch} {D : Nat} {ζ : ZP} {h : HI} {Q : HI → Prop} {x1 x2 x3 : Int} (hn : 144 ≤ ζ.2.2.2.2) (w : (rg (x2 + x3)) ∧ (if ¬ (x2 + x3) = 0 then ((rg x3) ∧ (if ¬ x3 = 0 then ((rg x2) ∧ (if ¬ x2 = 0 then (Q (hu h 1 4 1)) else (if 3 < x3 then (Q (hu h 1 4 1)) else (Q (hu h 1 4 3))))) else ((rg x2) ∧ (if 6 < x2 then (Q (hu h 1 4 1)) else (Q (hu h 1 4 2)))))) else ((rg x1) ∧ (if x1 = 59 then (Q (hu (hu h 1 4 x1) 1 3 ((h 1 3) + 1))) else (if x1 = 43 then (Q (hu (hu h 1 4 x1) 1 3 ((h 1 3) + 1))) else (if x1 = 45 then (Q (hu (hu h 1 4 x1) 1 3 ((h 1 3) + 1))) else (if x1 = 40 then (Q (hu (hu h 1 4 x1) 1 3 ((h 1 3) + 1))) else (if x1 = 41 then (Q (hu (hu h 1 4 x1) 1 3 ((h 1 3) + 1))) else (if x1 < 60 then (Q (hu (hu h 1 4 1) 1 3 ((h 1 3) + 1))) else (if 62 < x1 then (Q (hu (hu h 1 4 1) 1 3 ((h 1 3) + 1))) else (Q (hu (hu h 1 4 x1) 1 3 ((h 1 3) + 1))))))))))))) : G l (D + 1) 0 0 mX7_stepOver (zz ζ) 122 [aP 1, aI x1, aI x2, aI x3, aU] [] h (qV (zz ζ) Q) := by
  refine g_iload_n dX7_stepOver_122 rfl ?_
  refine g_iload_n dX7_stepOver_123 rfl ?_
  refine g_iadd dX7_stepOver_124 ?_
  obtain ⟨o1, w⟩ := w
  refine g_if_ne (tgt := 204) dX7_stepOver_125 rfl o1 ?_
  refine ite_imp (fun w => ?_) (fun w => ?_) w
  · refine g_iload_n dX7_stepOver_204 rfl ?_
    obtain ⟨o2, w⟩ := w
    refine g_if_ne (tgt := 226) dX7_stepOver_205 rfl o2 ?_
    refine ite_imp (fun w => ?_) (fun w => ?_) w
    · refine g_aload_n dX7_stepOver_226 rfl ?_
      refine g_iload_n dX7_stepOver_227 rfl ?_
      obtain ⟨o3, w⟩ := w
      refine g_if_ne (tgt := 240) dX7_stepOver_228 rfl o3 ?_
      refine ite_imp (fun w => ?_) (fun w => ?_) w
      · refine g_iconst dX7_stepOver_240 ?_
        refine g_putI (J := 4) dX7_stepOver_241 fl_X7_40 sh_1 (al_1 hn) rfl rfl ?_
        exact g_retV dX7_stepOver_244 rfl w
      · refine g_iload_n dX7_stepOver_231 rfl ?_
        refine g_iconst dX7_stepOver_232 ?_
        refine g_cmp_gt (tgt := 240) dX7_stepOver_233 rfl o2 (by decide) ?_
        refine ite_imp (fun w => ?_) (fun w => ?_) w
        · refine g_iconst dX7_stepOver_240 ?_
          refine g_putI (J := 4) dX7_stepOver_241 fl_X7_40 sh_1 (al_1 hn) rfl rfl ?_
          exact g_retV dX7_stepOver_244 rfl w
        · refine g_iconst dX7_stepOver_236 ?_
          refine g_goto (tgt := 241) dX7_stepOver_237 rfl ?_
          refine g_putI (J := 4) dX7_stepOver_241 fl_X7_40 sh_1 (al_1 hn) rfl rfl ?_
          exact g_retV dX7_stepOver_244 rfl w
    · refine g_aload_n dX7_stepOver_208 rfl ?_
      refine g_iload_n dX7_stepOver_209 rfl ?_
      refine g_bipush dX7_stepOver_210 rfl ?_
      obtain ⟨o4, w⟩ := w
      refine g_cmp_gt (tgt := 219) dX7_stepOver_212 rfl o4 (by decide) ?_
      refine ite_imp (fun w => ?_) (fun w => ?_) w
      · refine g_iconst dX7_stepOver_219 ?_
        refine g_putI (J := 4) dX7_stepOver_220 fl_X7_40 sh_1 (al_1 hn) rfl rfl ?_
        refine g_goto (tgt := 244) dX7_stepOver_223 rfl ?_
        exact g_retV dX7_stepOver_244 rfl w
      · refine g_iconst dX7_stepOver_215 ?_
        refine g_goto (tgt := 220) dX7_stepOver_216 rfl ?_
        refine g_putI (J := 4) dX7_stepOver_220 fl_X7_40 sh_1 (al_1 hn) rfl rfl ?_
        refine g_goto (tgt := 244) dX7_stepOver_223 rfl ?_
        exact g_retV dX7_stepOver_244 rfl w
  · refine g_iload_n dX7_stepOver_128 rfl ?_
    refine g_bipush dX7_stepOver_129 rfl ?_
    obtain ⟨o5, w⟩ := w
    refine g_cmp_eq (tgt := 170) dX7_stepOver_131 rfl o5 (by decide) ?_
    refine ite_imp (fun w => ?_) (fun w => ?_) w
    · refine g_iconst dX7_stepOver_170 ?_
      refine g_goto (tgt := 175) dX7_stepOver_171 rfl ?_
      refine g_istore (ls' := [aP 1, aI x1, aI x2, aI x3, aI 1]) dX7_stepOver_175 (Nat.le_of_ble_eq_true rfl) rfl rfl ?_
      refine g_aload_n dX7_stepOver_177 rfl ?_
      refine g_iload dX7_stepOver_178 rfl ?_
      refine g_if_eq (tgt := 187) dX7_stepOver_180 rfl (by decide) ?_
      rw [if_neg (by decide)]
      refine g_iload_n dX7_stepOver_183 rfl ?_
      refine g_goto (tgt := 188) dX7_stepOver_184 rfl ?_
      refine g_putI (J := 4) dX7_stepOver_188 fl_X7_40 sh_1 (al_1 hn) rfl rfl ?_
      refine g_aload_n dX7_stepOver_191 rfl ?_
      refine g_dup dX7_stepOver_192 rfl ?_
      refine g_getI (J := 3) dX7_stepOver_193 fl_X7_25 sh_1 (al_1 hn) (fun _ _ _ => rfl) rfl ?_
      refine g_iconst dX7_stepOver_196 ?_
      refine g_iadd dX7_stepOver_197 ?_
      refine g_putI (J := 3) dX7_stepOver_198 fl_X7_25 sh_1 (al_1 hn) rfl rfl ?_
      refine g_goto (tgt := 244) dX7_stepOver_201 rfl ?_
      exact g_retV dX7_stepOver_244 rfl w
    · refine g_iload_n dX7_stepOver_134 rfl ?_
      refine g_bipush dX7_stepOver_135 rfl ?_
      refine g_cmp_eq (tgt := 170) dX7_stepOver_137 rfl o5 (by decide) ?_
      refine ite_imp (fun w => ?_) (fun w => ?_) w
      · refine g_iconst dX7_stepOver_170 ?_
        refine g_goto (tgt := 175) dX7_stepOver_171 rfl ?_
        refine g_istore (ls' := [aP 1, aI x1, aI x2, aI x3, aI 1]) dX7_stepOver_175 (Nat.le_of_ble_eq_true rfl) rfl rfl ?_
        refine g_aload_n dX7_stepOver_177 rfl ?_
        refine g_iload dX7_stepOver_178 rfl ?_
        refine g_if_eq (tgt := 187) dX7_stepOver_180 rfl (by decide) ?_
        rw [if_neg (by decide)]
        refine g_iload_n dX7_stepOver_183 rfl ?_
        refine g_goto (tgt := 188) dX7_stepOver_184 rfl ?_
        refine g_putI (J := 4) dX7_stepOver_188 fl_X7_40 sh_1 (al_1 hn) rfl rfl ?_
        refine g_aload_n dX7_stepOver_191 rfl ?_
        refine g_dup dX7_stepOver_192 rfl ?_
        refine g_getI (J := 3) dX7_stepOver_193 fl_X7_25 sh_1 (al_1 hn) (fun _ _ _ => rfl) rfl ?_
        refine g_iconst dX7_stepOver_196 ?_
        refine g_iadd dX7_stepOver_197 ?_
        refine g_putI (J := 3) dX7_stepOver_198 fl_X7_25 sh_1 (al_1 hn) rfl rfl ?_
        refine g_goto (tgt := 244) dX7_stepOver_201 rfl ?_
        exact g_retV dX7_stepOver_244 rfl w
      · refine g_iload_n dX7_stepOver_140 rfl ?_
        refine g_bipush dX7_stepOver_141 rfl ?_
        refine g_cmp_eq (tgt := 170) dX7_stepOver_143 rfl o5 (by decide) ?_
        refine ite_imp (fun w => ?_) (fun w => ?_) w
        · refine g_iconst dX7_stepOver_170 ?_
          refine g_goto (tgt := 175) dX7_stepOver_171 rfl ?_
          refine g_istore (ls' := [aP 1, aI x1, aI x2, aI x3, aI 1]) dX7_stepOver_175 (Nat.le_of_ble_eq_true rfl) rfl rfl ?_
          refine g_aload_n dX7_stepOver_177 rfl ?_
          refine g_iload dX7_stepOver_178 rfl ?_
          refine g_if_eq (tgt := 187) dX7_stepOver_180 rfl (by decide) ?_
          rw [if_neg (by decide)]
          refine g_iload_n dX7_stepOver_183 rfl ?_
          refine g_goto (tgt := 188) dX7_stepOver_184 rfl ?_
          refine g_putI (J := 4) dX7_stepOver_188 fl_X7_40 sh_1 (al_1 hn) rfl rfl ?_
          refine g_aload_n dX7_stepOver_191 rfl ?_
          refine g_dup dX7_stepOver_192 rfl ?_
          refine g_getI (J := 3) dX7_stepOver_193 fl_X7_25 sh_1 (al_1 hn) (fun _ _ _ => rfl) rfl ?_
          refine g_iconst dX7_stepOver_196 ?_
          refine g_iadd dX7_stepOver_197 ?_
          refine g_putI (J := 3) dX7_stepOver_198 fl_X7_25 sh_1 (al_1 hn) rfl rfl ?_
          refine g_goto (tgt := 244) dX7_stepOver_201 rfl ?_
          exact g_retV dX7_stepOver_244 rfl w
        · refine g_iload_n dX7_stepOver_146 rfl ?_
          refine g_bipush dX7_stepOver_147 rfl ?_
          refine g_cmp_eq (tgt := 170) dX7_stepOver_149 rfl o5 (by decide) ?_
          refine ite_imp (fun w => ?_) (fun w => ?_) w
          · refine g_iconst dX7_stepOver_170 ?_
            refine g_goto (tgt := 175) dX7_stepOver_171 rfl ?_
            refine g_istore (ls' := [aP 1, aI x1, aI x2, aI x3, aI 1]) dX7_stepOver_175 (Nat.le_of_ble_eq_true rfl) rfl rfl ?_
            refine g_aload_n dX7_stepOver_177 rfl ?_
            refine g_iload dX7_stepOver_178 rfl ?_
            refine g_if_eq (tgt := 187) dX7_stepOver_180 rfl (by decide) ?_
            rw [if_neg (by decide)]
            refine g_iload_n dX7_stepOver_183 rfl ?_
            refine g_goto (tgt := 188) dX7_stepOver_184 rfl ?_
            refine g_putI (J := 4) dX7_stepOver_188 fl_X7_40 sh_1 (al_1 hn) rfl rfl ?_
            refine g_aload_n dX7_stepOver_191 rfl ?_
            refine g_dup dX7_stepOver_192 rfl ?_
            refine g_getI (J := 3) dX7_stepOver_193 fl_X7_25 sh_1 (al_1 hn) (fun _ _ _ => rfl) rfl ?_
            refine g_iconst dX7_stepOver_196 ?_
            refine g_iadd dX7_stepOver_197 ?_
            refine g_putI (J := 3) dX7_stepOver_198 fl_X7_25 sh_1 (al_1 hn) rfl rfl ?_
            refine g_goto (tgt := 244) dX7_stepOver_201 rfl ?_
            exact g_retV dX7_stepOver_244 rfl w
          · refine g_iload_n dX7_stepOver_152 rfl ?_
            refine g_bipush dX7_stepOver_153 rfl ?_
            refine g_cmp_eq (tgt := 170) dX7_stepOver_155 rfl o5 (by decide) ?_
            refine ite_imp (fun w => ?_) (fun w => ?_) w
            · refine g_iconst dX7_stepOver_170 ?_
              refine g_goto (tgt := 175) dX7_stepOver_171 rfl ?_
              refine g_istore (ls' := [aP 1, aI x1, aI x2, aI x3, aI 1]) dX7_stepOver_175 (Nat.le_of_ble_eq_true rfl) rfl rfl ?_
              refine g_aload_n dX7_stepOver_177 rfl ?_
              refine g_iload dX7_stepOver_178 rfl ?_
              refine g_if_eq (tgt := 187) dX7_stepOver_180 rfl (by decide) ?_
              rw [if_neg (by decide)]
              refine g_iload_n dX7_stepOver_183 rfl ?_
              refine g_goto (tgt := 188) dX7_stepOver_184 rfl ?_
              refine g_putI (J := 4) dX7_stepOver_188 fl_X7_40 sh_1 (al_1 hn) rfl rfl ?_
              refine g_aload_n dX7_stepOver_191 rfl ?_
              refine g_dup dX7_stepOver_192 rfl ?_
              refine g_getI (J := 3) dX7_stepOver_193 fl_X7_25 sh_1 (al_1 hn) (fun _ _ _ => rfl) rfl ?_
              refine g_iconst dX7_stepOver_196 ?_
              refine g_iadd dX7_stepOver_197 ?_
              refine g_putI (J := 3) dX7_stepOver_198 fl_X7_25 sh_1 (al_1 hn) rfl rfl ?_
              refine g_goto (tgt := 244) dX7_stepOver_201 rfl ?_
              exact g_retV dX7_stepOver_244 rfl w
            · refine g_iload_n dX7_stepOver_158 rfl ?_
              refine g_bipush dX7_stepOver_159 rfl ?_
              refine g_cmp_lt (tgt := 174) dX7_stepOver_161 rfl o5 (by decide) ?_
              refine ite_imp (fun w => ?_) (fun w => ?_) w
              · refine g_iconst dX7_stepOver_174 ?_
                refine g_istore (ls' := [aP 1, aI x1, aI x2, aI x3, aI 0]) dX7_stepOver_175 (Nat.le_of_ble_eq_true rfl) rfl rfl ?_
                refine g_aload_n dX7_stepOver_177 rfl ?_
                refine g_iload dX7_stepOver_178 rfl ?_
                refine g_if_eq (tgt := 187) dX7_stepOver_180 rfl (by decide) ?_
                rw [if_pos (by decide)]
                refine g_iconst dX7_stepOver_187 ?_
                refine g_putI (J := 4) dX7_stepOver_188 fl_X7_40 sh_1 (al_1 hn) rfl rfl ?_
                refine g_aload_n dX7_stepOver_191 rfl ?_
                refine g_dup dX7_stepOver_192 rfl ?_
                refine g_getI (J := 3) dX7_stepOver_193 fl_X7_25 sh_1 (al_1 hn) (fun _ _ _ => rfl) rfl ?_
                refine g_iconst dX7_stepOver_196 ?_
                refine g_iadd dX7_stepOver_197 ?_
                refine g_putI (J := 3) dX7_stepOver_198 fl_X7_25 sh_1 (al_1 hn) rfl rfl ?_
                refine g_goto (tgt := 244) dX7_stepOver_201 rfl ?_
                exact g_retV dX7_stepOver_244 rfl w
              · refine g_iload_n dX7_stepOver_164 rfl ?_
                refine g_bipush dX7_stepOver_165 rfl ?_
                refine g_cmp_gt (tgt := 174) dX7_stepOver_167 rfl o5 (by decide) ?_
                refine ite_imp (fun w => ?_) (fun w => ?_) w
                · refine g_iconst dX7_stepOver_174 ?_
                  refine g_istore (ls' := [aP 1, aI x1, aI x2, aI x3, aI 0]) dX7_stepOver_175 (Nat.le_of_ble_eq_true rfl) rfl rfl ?_
                  refine g_aload_n dX7_stepOver_177 rfl ?_
                  refine g_iload dX7_stepOver_178 rfl ?_
                  refine g_if_eq (tgt := 187) dX7_stepOver_180 rfl (by decide) ?_
                  rw [if_pos (by decide)]
                  refine g_iconst dX7_stepOver_187 ?_
                  refine g_putI (J := 4) dX7_stepOver_188 fl_X7_40 sh_1 (al_1 hn) rfl rfl ?_
                  refine g_aload_n dX7_stepOver_191 rfl ?_
                  refine g_dup dX7_stepOver_192 rfl ?_
                  refine g_getI (J := 3) dX7_stepOver_193 fl_X7_25 sh_1 (al_1 hn) (fun _ _ _ => rfl) rfl ?_
                  refine g_iconst dX7_stepOver_196 ?_
                  refine g_iadd dX7_stepOver_197 ?_
                  refine g_putI (J := 3) dX7_stepOver_198 fl_X7_25 sh_1 (al_1 hn) rfl rfl ?_
                  refine g_goto (tgt := 244) dX7_stepOver_201 rfl ?_
                  exact g_retV dX7_stepOver_244 rfl w
                · refine g_iconst dX7_stepOver_170 ?_
                  refine g_goto (tgt := 175) dX7_stepOver_171 rfl ?_
                  refine g_istore (ls' := [aP 1, aI x1, aI x2, aI x3, aI 1]) dX7_stepOver_175 (Nat.le_of_ble_eq_true rfl) rfl rfl ?_
                  refine g_aload_n dX7_stepOver_177 rfl ?_
                  refine g_iload dX7_stepOver_178 rfl ?_
                  refine g_if_eq (tgt := 187) dX7_stepOver_180 rfl (by decide) ?_
                  rw [if_neg (by decide)]
                  refine g_iload_n dX7_stepOver_183 rfl ?_
                  refine g_goto (tgt := 188) dX7_stepOver_184 rfl ?_
                  refine g_putI (J := 4) dX7_stepOver_188 fl_X7_40 sh_1 (al_1 hn) rfl rfl ?_
                  refine g_aload_n dX7_stepOver_191 rfl ?_
                  refine g_dup dX7_stepOver_192 rfl ?_
                  refine g_getI (J := 3) dX7_stepOver_193 fl_X7_25 sh_1 (al_1 hn) (fun _ _ _ => rfl) rfl ?_
                  refine g_iconst dX7_stepOver_196 ?_
                  refine g_iadd dX7_stepOver_197 ?_
                  refine g_putI (J := 3) dX7_stepOver_198 fl_X7_25 sh_1 (al_1 hn) rfl rfl ?_
                  refine g_goto (tgt := 244) dX7_stepOver_201 rfl ?_
                  exact g_retV dX7_stepOver_244 rfl w
theorem e_X7_stepOver {l : Launch} {D : Nat} {ζ : ZP} {h : HI} {Q : HI → Prop} (hn : 144 ≤ ζ.2.2.2.2) (w : (0 ≤ (h 1 3) ∧ (h 1 3) < 540) ∧ G l (D + 1) 0 0 mX7_stepOver (zz ζ) 14 [aP 1, aI (h 2 (h 1 3)), aI 0, aI 0, aU] [] h (qV (zz ζ) Q)) : RtV l (D + 1) mX7_stepOver (zz ζ) [aP 1] h Q := by
  refine RtV.of 4 pn_X7 [aP 1, aU, aU, aU, aU] rfl rfl ?_
  refine g_aload_n dX7_stepOver_0 rfl ?_
  refine g_getR dX7_stepOver_1 fl_X7_11 sh_1 (al_1 hn) (fun _ _ _ => rfl) rf_1_0 ?_
  refine g_aload_n dX7_stepOver_4 rfl ?_
  refine g_getI (J := 3) dX7_stepOver_5 fl_X7_25 sh_1 (al_1 hn) (fun _ _ _ => rfl) rfl ?_
  obtain ⟨o1, w⟩ := w
  refine g_bald dX7_stepOver_8 sh_2 (al_2 hn) (Nat.le_of_ble_eq_true rfl) o1 ?_
  refine g_istore_n (ls' := [aP 1, aI (h 2 (h 1 3)), aU, aU, aU]) dX7_stepOver_9 (Nat.le_of_ble_eq_true rfl) rfl rfl ?_
  refine g_iconst dX7_stepOver_10 ?_
  refine g_istore_n (ls' := [aP 1, aI (h 2 (h 1 3)), aI 0, aU, aU]) dX7_stepOver_11 (Nat.le_of_ble_eq_true rfl) rfl rfl ?_
  refine g_iconst dX7_stepOver_12 ?_
  refine g_istore_n (ls' := [aP 1, aI (h 2 (h 1 3)), aI 0, aI 0, aU]) dX7_stepOver_13 (Nat.le_of_ble_eq_true rfl) rfl rfl ?_
  exact g_sub (ls' := [aP 1, aI (h 2 (h 1 3)), aI 0, aI 0, aU]) ⟨Or.inr rfl, Or.inr rfl, Or.inr rfl, Or.inr rfl, Or.inl rfl, trivial⟩ w
-- X7_wordOf at 6: not walked (ldc)
theorem e_X7_wordOf {l : Launch} {D : Nat} {ζ : ZP} {h : HI} {Q : Int → HI → Prop} {x0 : Int} (hn : 144 ≤ ζ.2.2.2.2) (w : G l (D + 1) 0 0 mX7_wordOf (zz ζ) 6 [aI x0, aI 0, aI 0, aI 0, aU] [] h (qI (zz ζ) Q)) : RtI l (D + 1) mX7_wordOf (zz ζ) [aI x0] h Q := by
  refine RtI.of 4 pn_X7 [aI x0, aU, aU, aU, aU] rfl rfl ?_
  refine g_iconst dX7_wordOf_0 ?_
  refine g_istore_n (ls' := [aI x0, aI 0, aU, aU, aU]) dX7_wordOf_1 (Nat.le_of_ble_eq_true rfl) rfl rfl ?_
  refine g_iconst dX7_wordOf_2 ?_
  refine g_istore_n (ls' := [aI x0, aI 0, aI 0, aU, aU]) dX7_wordOf_3 (Nat.le_of_ble_eq_true rfl) rfl rfl ?_
  refine g_iconst dX7_wordOf_4 ?_
  refine g_istore_n (ls' := [aI x0, aI 0, aI 0, aI 0, aU]) dX7_wordOf_5 (Nat.le_of_ble_eq_true rfl) rfl rfl ?_
  exact g_sub (ls' := [aI x0, aI 0, aI 0, aI 0, aU]) ⟨Or.inr rfl, Or.inr rfl, Or.inr rfl, Or.inr rfl, Or.inl rfl, trivial⟩ w
