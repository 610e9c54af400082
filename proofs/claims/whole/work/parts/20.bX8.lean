theorem e_X8_has {l : Launch} {D : Nat} {ζ : ZP} {h : HI} {Q : Int → HI → Prop} {x1 : Int} (hn : 144 ≤ ζ.2.2.2.2) (w : (0 ≤ x1 ∧ x1 < 60) ∧ (rg (h 46 x1)) ∧ (if (h 46 x1) ≤ 0 then (Q 0 h) else (Q 1 h))) : RtI l (D + 1) mX8_has (zz ζ) [aP 40, aI x1] h Q := by
  refine RtI.of 0 pn_X8 [aP 40, aI x1] rfl rfl ?_
  refine g_aload_n dX8_has_0 rfl ?_
  refine g_getR dX8_has_1 fl_X8_32 sh_40 (al_40 hn) (fun _ _ _ => rfl) rf_40_6 ?_
  refine g_iload_n dX8_has_4 rfl ?_
  obtain ⟨o1, w⟩ := w
  refine g_iald dX8_has_5 sh_46 (al_46 hn) (Nat.le_of_ble_eq_true rfl) o1 ?_
  obtain ⟨o2, w⟩ := w
  refine g_if_le (tgt := 13) dX8_has_6 rfl o2 ?_
  refine ite_imp (fun w => ?_) (fun w => ?_) w
  · refine g_iconst dX8_has_13 ?_
    exact g_retZ dX8_has_14 rfl (Or.inl rfl) w
  · refine g_iconst dX8_has_9 ?_
    refine g_goto (tgt := 14) dX8_has_10 rfl ?_
    exact g_retZ dX8_has_14 rfl (Or.inr rfl) w
theorem e_X8_flowOf {l : Launch} {D : Nat} {ζ : ZP} {h : HI} {Q : Int → HI → Prop} {x1 : Int} (hn : 144 ≤ ζ.2.2.2.2) (w : (0 ≤ x1 ∧ x1 < 60) ∧ RtI l D mX11_cut (zz ζ) [aI 1000000, aI (h 45 x1)] h (fun r1 h1 => Q r1 h1)) : RtI l (D + 1) mX8_flowOf (zz ζ) [aP 40, aI x1] h Q := by
  refine RtI.of 0 pn_X8 [aP 40, aI x1] rfl rfl ?_
  refine g_ldc (n := 1000000) dX8_flowOf_0 ko_X8_47 rfl ?_
  refine g_aload_n dX8_flowOf_2 rfl ?_
  refine g_getR dX8_flowOf_3 fl_X8_29 sh_40 (al_40 hn) (fun _ _ _ => rfl) rf_40_5 ?_
  refine g_iload_n dX8_flowOf_6 rfl ?_
  obtain ⟨o1, w⟩ := w
  refine g_iald dX8_flowOf_7 sh_45 (al_45 hn) (Nat.le_of_ble_eq_true rfl) o1 ?_
  refine g_callSNI (n := 2) (As := [aI 1000000, aI (h 45 x1)]) (st := []) dX8_flowOf_8 ml_X8_48 rfl rfl (Nat.le_of_ble_eq_true rfl) (RtI.mono w (fun r1 h1 w => ?_))
  exact g_retI dX8_flowOf_11 rfl w
theorem e_X8_toldOf {l : Launch} {D : Nat} {ζ : ZP} {h : HI} {Q : Int → HI → Prop} {x1 x2 : Int} (hn : 144 ≤ ζ.2.2.2.2) (w : RtI l D mX8_has (zz ζ) [aP 40, aI x1] h (fun r1 h1 => (rg r1) ∧ (if ¬ r1 = 0 then ((rg x2) ∧ (if ¬ x2 = 3 then (if ¬ x2 = 1 then ((0 ≤ x1 ∧ x1 < 60) ∧ Q (h1 45 x1) h1) else ((0 ≤ x1 ∧ x1 < 60) ∧ Q (h1 44 x1) h1)) else ((0 ≤ x1 ∧ x1 < 60) ∧ Q ((h1 48 x1) - (h1 47 x1)) h1))) else (Q (-1) h1)))) : RtI l (D + 1) mX8_toldOf (zz ζ) [aP 40, aI x1, aI x2] h Q := by
  refine RtI.of 0 pn_X8 [aP 40, aI x1, aI x2] rfl rfl ?_
  refine g_aload_n dX8_toldOf_0 rfl ?_
  refine g_iload_n dX8_toldOf_1 rfl ?_
  refine g_callVI (n := 1) (As := [aI x1]) (st := []) dX8_toldOf_2 ml_X8_52 sh_40 rfl (al_40 hn) rfl rfl (Nat.le_of_ble_eq_true rfl) (RtI.mono w (fun r1 h1 w => ?_))
  obtain ⟨o1, w⟩ := w
  refine g_if_ne (tgt := 10) dX8_toldOf_5 rfl o1 ?_
  refine ite_imp (fun w => ?_) (fun w => ?_) w
  · refine g_iload_n dX8_toldOf_10 rfl ?_
    refine g_iconst dX8_toldOf_11 ?_
    obtain ⟨o2, w⟩ := w
    refine g_cmp_ne (tgt := 29) dX8_toldOf_12 rfl o2 (by decide) ?_
    refine ite_imp (fun w => ?_) (fun w => ?_) w
    · refine g_iload_n dX8_toldOf_29 rfl ?_
      refine g_iconst dX8_toldOf_30 ?_
      refine g_cmp_ne (tgt := 43) dX8_toldOf_31 rfl o2 (by decide) ?_
      refine ite_imp (fun w => ?_) (fun w => ?_) w
      · refine g_aload_n dX8_toldOf_43 rfl ?_
        refine g_getR dX8_toldOf_44 fl_X8_29 sh_40 (al_40 hn) (fun _ _ _ => rfl) rf_40_5 ?_
        refine g_iload_n dX8_toldOf_47 rfl ?_
        obtain ⟨o3, w⟩ := w
        refine g_iald dX8_toldOf_48 sh_45 (al_45 hn) (Nat.le_of_ble_eq_true rfl) o3 ?_
        exact g_retI dX8_toldOf_49 rfl w
      · refine g_aload_n dX8_toldOf_34 rfl ?_
        refine g_getR dX8_toldOf_35 fl_X8_26 sh_40 (al_40 hn) (fun _ _ _ => rfl) rf_40_4 ?_
        refine g_iload_n dX8_toldOf_38 rfl ?_
        obtain ⟨o4, w⟩ := w
        refine g_iald dX8_toldOf_39 sh_44 (al_44 hn) (Nat.le_of_ble_eq_true rfl) o4 ?_
        refine g_goto (tgt := 49) dX8_toldOf_40 rfl ?_
        exact g_retI dX8_toldOf_49 rfl w
    · refine g_aload_n dX8_toldOf_15 rfl ?_
      refine g_getR dX8_toldOf_16 fl_X8_38 sh_40 (al_40 hn) (fun _ _ _ => rfl) rf_40_8 ?_
      refine g_iload_n dX8_toldOf_19 rfl ?_
      obtain ⟨o5, w⟩ := w
      refine g_iald dX8_toldOf_20 sh_48 (al_48 hn) (Nat.le_of_ble_eq_true rfl) o5 ?_
      refine g_aload_n dX8_toldOf_21 rfl ?_
      refine g_getR dX8_toldOf_22 fl_X8_35 sh_40 (al_40 hn) (fun _ _ _ => rfl) rf_40_7 ?_
      refine g_iload_n dX8_toldOf_25 rfl ?_
      refine g_iald dX8_toldOf_26 sh_47 (al_47 hn) (Nat.le_of_ble_eq_true rfl) o5 ?_
      refine g_isub dX8_toldOf_27 ?_
      exact g_retI dX8_toldOf_28 rfl w
  · refine g_iconst dX8_toldOf_8 ?_
    exact g_retI dX8_toldOf_9 rfl w
theorem b_X8_mostSpread_7 {l : Launch} {D : Nat} {ζ : ZP} {h : HI} {Q : Int → HI → Prop} {x1 x2 x3 x4 : Int} (hn : 144 ≤ ζ.2.2.2.2) (w : (rg x4) ∧ (rg x1) ∧ (if x1 ≤ x4 then (Q x2 h) else ((0 ≤ x4 ∧ x4 < 60) ∧ (rg (h 46 x4)) ∧ (if (h 46 x4) ≤ 1 then (G l (D + 1) 0 0 mX8_mostSpread (zz ζ) 7 [aP 40, aI x1, aI x2, aI x3, aI (x4 + 1)] [] h (qI (zz ζ) Q)) else (RtI l D mX8_toldOf (zz ζ) [aP 40, aI x4, aI 3] h (fun r1 h1 => (rg r1) ∧ (rg x3) ∧ (if r1 ≤ x3 then (G l (D + 1) 0 0 mX8_mostSpread (zz ζ) 7 [aP 40, aI x1, aI x2, aI x3, aI (x4 + 1)] [] h1 (qI (zz ζ) Q)) else (RtI l D mX8_toldOf (zz ζ) [aP 40, aI x4, aI 3] h1 (fun r2 h2 => G l (D + 1) 0 0 mX8_mostSpread (zz ζ) 7 [aP 40, aI x1, aI x4, aI r2, aI (x4 + 1)] [] h2 (qI (zz ζ) Q)))))))))) : G l (D + 1) 0 0 mX8_mostSpread (zz ζ) 7 [aP 40, aI x1, aI x2, aI x3, aI x4] [] h (qI (zz ζ) Q) := by
  refine g_iload dX8_mostSpread_7 rfl ?_
  refine g_iload_n dX8_mostSpread_9 rfl ?_
  obtain ⟨o1, w⟩ := w
  obtain ⟨o2, w⟩ := w
  refine g_cmp_ge (tgt := 52) dX8_mostSpread_10 rfl o1 o2 ?_
  refine ite_imp (fun w => ?_) (fun w => ?_) w
  · refine g_iload_n dX8_mostSpread_52 rfl ?_
    exact g_retI dX8_mostSpread_53 rfl w
  · refine g_aload_n dX8_mostSpread_13 rfl ?_
    refine g_getR dX8_mostSpread_14 fl_X8_32 sh_40 (al_40 hn) (fun _ _ _ => rfl) rf_40_6 ?_
    refine g_iload dX8_mostSpread_17 rfl ?_
    obtain ⟨o3, w⟩ := w
    refine g_iald dX8_mostSpread_19 sh_46 (al_46 hn) (Nat.le_of_ble_eq_true rfl) o3 ?_
    refine g_iconst dX8_mostSpread_20 ?_
    obtain ⟨o4, w⟩ := w
    refine g_cmp_le (tgt := 46) dX8_mostSpread_21 rfl o4 (by decide) ?_
    refine ite_imp (fun w => ?_) (fun w => ?_) w
    · refine g_iinc (ls' := [aP 40, aI x1, aI x2, aI x3, aI (x4 + 1)]) dX8_mostSpread_46 rfl (Nat.le_of_ble_eq_true rfl) rfl rfl ?_
      refine g_goto (tgt := 7) dX8_mostSpread_49 rfl ?_
      exact g_sub (ls' := [aP 40, aI x1, aI x2, aI x3, aI (x4 + 1)]) ⟨Or.inr rfl, Or.inr rfl, Or.inr rfl, Or.inr rfl, Or.inr rfl, trivial⟩ w
    · refine g_aload_n dX8_mostSpread_24 rfl ?_
      refine g_iload dX8_mostSpread_25 rfl ?_
      refine g_iconst dX8_mostSpread_27 ?_
      refine g_callVI (n := 2) (As := [aI x4, aI 3]) (st := []) dX8_mostSpread_28 ml_X8_56 sh_40 rfl (al_40 hn) rfl rfl (Nat.le_of_ble_eq_true rfl) (RtI.mono w (fun r1 h1 w => ?_))
      refine g_iload_n dX8_mostSpread_31 rfl ?_
      obtain ⟨o5, w⟩ := w
      obtain ⟨o6, w⟩ := w
      refine g_cmp_le (tgt := 46) dX8_mostSpread_32 rfl o5 o6 ?_
      refine ite_imp (fun w => ?_) (fun w => ?_) w
      · refine g_iinc (ls' := [aP 40, aI x1, aI x2, aI x3, aI (x4 + 1)]) dX8_mostSpread_46 rfl (Nat.le_of_ble_eq_true rfl) rfl rfl ?_
        refine g_goto (tgt := 7) dX8_mostSpread_49 rfl ?_
        exact g_sub (ls' := [aP 40, aI x1, aI x2, aI x3, aI (x4 + 1)]) ⟨Or.inr rfl, Or.inr rfl, Or.inr rfl, Or.inr rfl, Or.inr rfl, trivial⟩ w
      · refine g_aload_n dX8_mostSpread_35 rfl ?_
        refine g_iload dX8_mostSpread_36 rfl ?_
        refine g_iconst dX8_mostSpread_38 ?_
        refine g_callVI (n := 2) (As := [aI x4, aI 3]) (st := []) dX8_mostSpread_39 ml_X8_56 sh_40 rfl (al_40 hn) rfl rfl (Nat.le_of_ble_eq_true rfl) (RtI.mono w (fun r2 h2 w => ?_))
        refine g_istore_n (ls' := [aP 40, aI x1, aI x2, aI r2, aI x4]) dX8_mostSpread_42 (Nat.le_of_ble_eq_true rfl) rfl rfl ?_
        refine g_iload dX8_mostSpread_43 rfl ?_
        refine g_istore_n (ls' := [aP 40, aI x1, aI x4, aI r2, aI x4]) dX8_mostSpread_45 (Nat.le_of_ble_eq_true rfl) rfl rfl ?_
        refine g_iinc (ls' := [aP 40, aI x1, aI x4, aI r2, aI (x4 + 1)]) dX8_mostSpread_46 rfl (Nat.le_of_ble_eq_true rfl) rfl rfl ?_
        refine g_goto (tgt := 7) dX8_mostSpread_49 rfl ?_
        exact g_sub (ls' := [aP 40, aI x1, aI x4, aI r2, aI (x4 + 1)]) ⟨Or.inr rfl, Or.inr rfl, Or.inr rfl, Or.inr rfl, Or.inr rfl, trivial⟩ w
theorem e_X8_mostSpread {l : Launch} {D : Nat} {ζ : ZP} {h : HI} {Q : Int → HI → Prop} {x1 : Int} (hn : 144 ≤ ζ.2.2.2.2) (w : G l (D + 1) 0 0 mX8_mostSpread (zz ζ) 7 [aP 40, aI x1, aI (-1), aI (-1), aI 0] [] h (qI (zz ζ) Q)) : RtI l (D + 1) mX8_mostSpread (zz ζ) [aP 40, aI x1] h Q := by
  refine RtI.of 3 pn_X8 [aP 40, aI x1, aU, aU, aU] rfl rfl ?_
  refine g_iconst dX8_mostSpread_0 ?_
  refine g_istore_n (ls' := [aP 40, aI x1, aI (-1), aU, aU]) dX8_mostSpread_1 (Nat.le_of_ble_eq_true rfl) rfl rfl ?_
  refine g_iconst dX8_mostSpread_2 ?_
  refine g_istore_n (ls' := [aP 40, aI x1, aI (-1), aI (-1), aU]) dX8_mostSpread_3 (Nat.le_of_ble_eq_true rfl) rfl rfl ?_
  refine g_iconst dX8_mostSpread_4 ?_
  refine g_istore (ls' := [aP 40, aI x1, aI (-1), aI (-1), aI 0]) dX8_mostSpread_5 (Nat.le_of_ble_eq_true rfl) rfl rfl ?_
  exact g_sub (ls' := [aP 40, aI x1, aI (-1), aI (-1), aI 0]) ⟨Or.inr rfl, Or.inr rfl, Or.inr rfl, Or.inr rfl, Or.inr rfl, trivial⟩ w
theorem b_X8_refresh_15 {l : Launch} {D : Nat} {ζ : ZP} {h : HI} {Q : HI → Prop} {x2 : Int} (hn : 144 ≤ ζ.2.2.2.2) (w : (rg x2) ∧ (if 6 ≤ x2 then (RtV l D mX8_findFirst (zz ζ) [aP 40, aP 3] h (fun h1 => RtV l D mX8_weigh (zz ζ) [aP 40, aP 3] h1 (fun h2 => G l (D + 1) 0 0 mX8_refresh (zz ζ) 86 [aP 40, aP 3, aI ((h2 4 3) - 1), aU] [] h2 (qV (zz ζ) Q)))) else (if ¬ x2 = 0 then ((0 ≤ x2 ∧ x2 < 6) ∧ G l (D + 1) 0 0 mX8_refresh (zz ζ) 15 [aP 40, aP 3, aI (x2 + 1), aU] [] (hu (hu (hu h 41 x2 0) 42 x2 0) 43 x2 0) (qV (zz ζ) Q)) else ((rg (h 4 3)) ∧ (if (h 4 3) ≤ 0 then ((0 ≤ x2 ∧ x2 < 6) ∧ G l (D + 1) 0 0 mX8_refresh (zz ζ) 15 [aP 40, aP 3, aI (x2 + 1), aU] [] (hu (hu (hu h 41 x2 0) 42 x2 0) 43 x2 0) (qV (zz ζ) Q)) else ((0 ≤ x2 ∧ x2 < 6) ∧ G l (D + 1) 0 0 mX8_refresh (zz ζ) 15 [aP 40, aP 3, aI (x2 + 1), aU] [] (hu (hu (hu h 41 x2 1) 42 x2 0) 43 x2 0) (qV (zz ζ) Q))))))) : G l (D + 1) 0 0 mX8_refresh (zz ζ) 15 [aP 40, aP 3, aI x2, aU] [] h (qV (zz ζ) Q) := by
  refine g_iload_n dX8_refresh_15 rfl ?_
  refine g_bipush dX8_refresh_16 rfl ?_
  obtain ⟨o1, w⟩ := w
  refine g_cmp_ge (tgt := 66) dX8_refresh_18 rfl o1 (by decide) ?_
  refine ite_imp (fun w => ?_) (fun w => ?_) w
  · refine g_aload_n dX8_refresh_66 rfl ?_
    refine g_aload_n dX8_refresh_67 rfl ?_
    refine g_callVV (n := 1) (As := [aP 3]) (st := []) dX8_refresh_68 ml_X8_71 sh_40 rfl (al_40 hn) rfl rfl (Nat.le_of_ble_eq_true rfl) (RtV.mono w (fun h1 w => ?_))
    refine g_aload_n dX8_refresh_71 rfl ?_
    refine g_aload_n dX8_refresh_72 rfl ?_
    refine g_callVV (n := 1) (As := [aP 3]) (st := []) dX8_refresh_73 ml_X8_75 sh_40 rfl (al_40 hn) rfl rfl (Nat.le_of_ble_eq_true rfl) (RtV.mono w (fun h2 w => ?_))
    refine g_aload_n dX8_refresh_76 rfl ?_
    refine g_getR dX8_refresh_77 fl_X8_59 sh_3 (al_3 hn) (fun _ _ _ => rfl) rf_3_0 ?_
    refine g_getI (J := 3) dX8_refresh_80 fl_X8_65 sh_4 (al_4 hn) (fun _ _ _ => rfl) rfl ?_
    refine g_iconst dX8_refresh_83 ?_
    refine g_isub dX8_refresh_84 ?_
    refine g_istore_n (ls' := [aP 40, aP 3, aI ((h2 4 3) - 1), aU]) dX8_refresh_85 (Nat.le_of_ble_eq_true rfl) rfl rfl ?_
    exact g_sub (ls' := [aP 40, aP 3, aI ((h2 4 3) - 1), aU]) ⟨Or.inr rfl, Or.inr rfl, Or.inr rfl, Or.inl rfl, trivial⟩ w
  · refine g_aload_n dX8_refresh_21 rfl ?_
    refine g_getR dX8_refresh_22 fl_X8_15 sh_40 (al_40 hn) (fun _ _ _ => rfl) rf_40_1 ?_
    refine g_iload_n dX8_refresh_25 rfl ?_
    refine g_iload_n dX8_refresh_26 rfl ?_
    refine g_if_ne (tgt := 44) dX8_refresh_27 rfl o1 ?_
    refine ite_imp (fun w => ?_) (fun w => ?_) w
    · refine g_iconst dX8_refresh_44 ?_
      obtain ⟨o2, w⟩ := w
      refine g_zast dX8_refresh_45 sh_41 (al_41 hn) (Nat.le_of_ble_eq_true rfl) o2 (Or.inl rfl) ?_
      refine g_aload_n dX8_refresh_46 rfl ?_
      refine g_getR dX8_refresh_47 fl_X8_19 sh_40 (al_40 hn) (fun _ _ _ => rfl) rf_40_2 ?_
      refine g_iload_n dX8_refresh_50 rfl ?_
      refine g_iconst dX8_refresh_51 ?_
      refine g_iast dX8_refresh_52 sh_42 (al_42 hn) (Nat.le_of_ble_eq_true rfl) o2 ?_
      refine g_aload_n dX8_refresh_53 rfl ?_
      refine g_getR dX8_refresh_54 fl_X8_23 sh_40 (al_40 hn) (fun _ _ _ => rfl) rf_40_3 ?_
      refine g_iload_n dX8_refresh_57 rfl ?_
      refine g_iconst dX8_refresh_58 ?_
      refine g_iast dX8_refresh_59 sh_43 (al_43 hn) (Nat.le_of_ble_eq_true rfl) o2 ?_
      refine g_iinc (ls' := [aP 40, aP 3, aI (x2 + 1), aU]) dX8_refresh_60 rfl (Nat.le_of_ble_eq_true rfl) rfl rfl ?_
      refine g_goto (tgt := 15) dX8_refresh_63 rfl ?_
      exact g_sub (ls' := [aP 40, aP 3, aI (x2 + 1), aU]) ⟨Or.inr rfl, Or.inr rfl, Or.inr rfl, Or.inl rfl, trivial⟩ w
    · refine g_aload_n dX8_refresh_30 rfl ?_
      refine g_getR dX8_refresh_31 fl_X8_59 sh_3 (al_3 hn) (fun _ _ _ => rfl) rf_3_0 ?_
      refine g_getI (J := 3) dX8_refresh_34 fl_X8_65 sh_4 (al_4 hn) (fun _ _ _ => rfl) rfl ?_
      obtain ⟨o3, w⟩ := w
      refine g_if_le (tgt := 44) dX8_refresh_37 rfl o3 ?_
      refine ite_imp (fun w => ?_) (fun w => ?_) w
      · refine g_iconst dX8_refresh_44 ?_
        obtain ⟨o4, w⟩ := w
        refine g_zast dX8_refresh_45 sh_41 (al_41 hn) (Nat.le_of_ble_eq_true rfl) o4 (Or.inl rfl) ?_
        refine g_aload_n dX8_refresh_46 rfl ?_
        refine g_getR dX8_refresh_47 fl_X8_19 sh_40 (al_40 hn) (fun _ _ _ => rfl) rf_40_2 ?_
        refine g_iload_n dX8_refresh_50 rfl ?_
        refine g_iconst dX8_refresh_51 ?_
        refine g_iast dX8_refresh_52 sh_42 (al_42 hn) (Nat.le_of_ble_eq_true rfl) o4 ?_
        refine g_aload_n dX8_refresh_53 rfl ?_
        refine g_getR dX8_refresh_54 fl_X8_23 sh_40 (al_40 hn) (fun _ _ _ => rfl) rf_40_3 ?_
        refine g_iload_n dX8_refresh_57 rfl ?_
        refine g_iconst dX8_refresh_58 ?_
        refine g_iast dX8_refresh_59 sh_43 (al_43 hn) (Nat.le_of_ble_eq_true rfl) o4 ?_
        refine g_iinc (ls' := [aP 40, aP 3, aI (x2 + 1), aU]) dX8_refresh_60 rfl (Nat.le_of_ble_eq_true rfl) rfl rfl ?_
        refine g_goto (tgt := 15) dX8_refresh_63 rfl ?_
        exact g_sub (ls' := [aP 40, aP 3, aI (x2 + 1), aU]) ⟨Or.inr rfl, Or.inr rfl, Or.inr rfl, Or.inl rfl, trivial⟩ w
      · refine g_iconst dX8_refresh_40 ?_
        refine g_goto (tgt := 45) dX8_refresh_41 rfl ?_
        obtain ⟨o5, w⟩ := w
        refine g_zast dX8_refresh_45 sh_41 (al_41 hn) (Nat.le_of_ble_eq_true rfl) o5 (Or.inr rfl) ?_
        refine g_aload_n dX8_refresh_46 rfl ?_
        refine g_getR dX8_refresh_47 fl_X8_19 sh_40 (al_40 hn) (fun _ _ _ => rfl) rf_40_2 ?_
        refine g_iload_n dX8_refresh_50 rfl ?_
        refine g_iconst dX8_refresh_51 ?_
        refine g_iast dX8_refresh_52 sh_42 (al_42 hn) (Nat.le_of_ble_eq_true rfl) o5 ?_
        refine g_aload_n dX8_refresh_53 rfl ?_
        refine g_getR dX8_refresh_54 fl_X8_23 sh_40 (al_40 hn) (fun _ _ _ => rfl) rf_40_3 ?_
        refine g_iload_n dX8_refresh_57 rfl ?_
        refine g_iconst dX8_refresh_58 ?_
        refine g_iast dX8_refresh_59 sh_43 (al_43 hn) (Nat.le_of_ble_eq_true rfl) o5 ?_
        refine g_iinc (ls' := [aP 40, aP 3, aI (x2 + 1), aU]) dX8_refresh_60 rfl (Nat.le_of_ble_eq_true rfl) rfl rfl ?_
        refine g_goto (tgt := 15) dX8_refresh_63 rfl ?_
        exact g_sub (ls' := [aP 40, aP 3, aI (x2 + 1), aU]) ⟨Or.inr rfl, Or.inr rfl, Or.inr rfl, Or.inl rfl, trivial⟩ w
theorem b_X8_refresh_86 {l : Launch} {D : Nat} {ζ : ZP} {h : HI} {Q : HI → Prop} {x2 : Int} (hn : 144 ≤ ζ.2.2.2.2) (w : (rg x2) ∧ (if x2 ≤ 0 then (Q h) else (RtI l D mX8_nextBench (zz ζ) [aP 40, aP 3] h (fun r1 h1 => (rg r1) ∧ (if ¬ r1 = (-1) then (RtI l D mX8_middle (zz ζ) [aP 40, aI r1, aP 25, aP 44, aI (h1 3 3)] h1 (fun r2 h2 => (0 ≤ r1 ∧ r1 < 6) ∧ RtI l D mX8_middle (zz ζ) [aP 40, aI r1, aP 26, aP 45, aI (h2 3 3)] (hu h2 42 r1 r2) (fun r3 h3 => RtV l D mX8_weigh (zz ζ) [aP 40, aP 3] (hu (hu h3 43 r1 r3) 41 r1 1) (fun h4 => G l (D + 1) 0 0 mX8_refresh (zz ζ) 86 [aP 40, aP 3, aI (x2 + (-1)), aU] [] h4 (qV (zz ζ) Q))))) else (Q h1)))))) : G l (D + 1) 0 0 mX8_refresh (zz ζ) 86 [aP 40, aP 3, aI x2, aU] [] h (qV (zz ζ) Q) := by
  refine g_iload_n dX8_refresh_86 rfl ?_
  obtain ⟨o1, w⟩ := w
  refine g_if_le (tgt := 166) dX8_refresh_87 rfl o1 ?_
  refine ite_imp (fun w => ?_) (fun w => ?_) w
  · exact g_retV dX8_refresh_166 rfl w
  · refine g_aload_n dX8_refresh_90 rfl ?_
    refine g_aload_n dX8_refresh_91 rfl ?_
    refine g_callVI (n := 1) (As := [aP 3]) (st := []) dX8_refresh_92 ml_X8_78 sh_40 rfl (al_40 hn) rfl rfl (Nat.le_of_ble_eq_true rfl) (RtI.mono w (fun r1 h1 w => ?_))
    refine g_istore_n (ls' := [aP 40, aP 3, aI x2, aI r1]) dX8_refresh_95 (Nat.le_of_ble_eq_true rfl) rfl rfl ?_
    refine g_iload_n dX8_refresh_96 rfl ?_
    refine g_iconst dX8_refresh_97 ?_
    obtain ⟨o2, w⟩ := w
    refine g_cmp_ne (tgt := 102) dX8_refresh_98 rfl o2 (by decide) ?_
    refine ite_imp (fun w => ?_) (fun w => ?_) w
    · refine g_aload_n dX8_refresh_102 rfl ?_
      refine g_getR dX8_refresh_103 fl_X8_19 sh_40 (al_40 hn) (fun _ _ _ => rfl) rf_40_2 ?_
      refine g_iload_n dX8_refresh_106 rfl ?_
      refine g_aload_n dX8_refresh_107 rfl ?_
      refine g_iload_n dX8_refresh_108 rfl ?_
      refine g_aload_n dX8_refresh_109 rfl ?_
      refine g_getR dX8_refresh_110 fl_X8_82 sh_3 (al_3 hn) (fun _ _ _ => rfl) rf_3_8 ?_
      refine g_aload_n dX8_refresh_113 rfl ?_
      refine g_getR dX8_refresh_114 fl_X8_26 sh_40 (al_40 hn) (fun _ _ _ => rfl) rf_40_4 ?_
      refine g_aload_n dX8_refresh_117 rfl ?_
      refine g_getI (J := 3) dX8_refresh_118 fl_X8_85 sh_3 (al_3 hn) (fun _ _ _ => rfl) rfl ?_
      refine g_callVI (n := 4) (As := [aI r1, aP 25, aP 44, aI (h1 3 3)]) (st := [aI r1, aP 42]) dX8_refresh_121 ml_X8_88 sh_40 rfl (al_40 hn) rfl rfl (Nat.le_of_ble_eq_true rfl) (RtI.mono w (fun r2 h2 w => ?_))
      obtain ⟨o3, w⟩ := w
      refine g_iast dX8_refresh_124 sh_42 (al_42 hn) (Nat.le_of_ble_eq_true rfl) o3 ?_
      refine g_aload_n dX8_refresh_125 rfl ?_
      refine g_getR dX8_refresh_126 fl_X8_23 sh_40 (al_40 hn) (fun _ _ _ => rfl) rf_40_3 ?_
      refine g_iload_n dX8_refresh_129 rfl ?_
      refine g_aload_n dX8_refresh_130 rfl ?_
      refine g_iload_n dX8_refresh_131 rfl ?_
      refine g_aload_n dX8_refresh_132 rfl ?_
      refine g_getR dX8_refresh_133 fl_X8_92 sh_3 (al_3 hn) (fun _ _ _ => rfl) rf_3_9 ?_
      refine g_aload_n dX8_refresh_136 rfl ?_
      refine g_getR dX8_refresh_137 fl_X8_29 sh_40 (al_40 hn) (fun _ _ _ => rfl) rf_40_5 ?_
      refine g_aload_n dX8_refresh_140 rfl ?_
      refine g_getI (J := 3) dX8_refresh_141 fl_X8_85 sh_3 (al_3 hn) (fun _ _ _ => rfl) rfl ?_
      refine g_callVI (n := 4) (As := [aI r1, aP 26, aP 45, aI (h2 3 3)]) (st := [aI r1, aP 43]) dX8_refresh_144 ml_X8_88 sh_40 rfl (al_40 hn) rfl rfl (Nat.le_of_ble_eq_true rfl) (RtI.mono w (fun r3 h3 w => ?_))
      refine g_iast dX8_refresh_147 sh_43 (al_43 hn) (Nat.le_of_ble_eq_true rfl) o3 ?_
      refine g_aload_n dX8_refresh_148 rfl ?_
      refine g_getR dX8_refresh_149 fl_X8_15 sh_40 (al_40 hn) (fun _ _ _ => rfl) rf_40_1 ?_
      refine g_iload_n dX8_refresh_152 rfl ?_
      refine g_iconst dX8_refresh_153 ?_
      refine g_zast dX8_refresh_154 sh_41 (al_41 hn) (Nat.le_of_ble_eq_true rfl) o3 (Or.inr rfl) ?_
      refine g_aload_n dX8_refresh_155 rfl ?_
      refine g_aload_n dX8_refresh_156 rfl ?_
      refine g_callVV (n := 1) (As := [aP 3]) (st := []) dX8_refresh_157 ml_X8_75 sh_40 rfl (al_40 hn) rfl rfl (Nat.le_of_ble_eq_true rfl) (RtV.mono w (fun h4 w => ?_))
      refine g_iinc (ls' := [aP 40, aP 3, aI (x2 + (-1)), aI r1]) dX8_refresh_160 rfl (Nat.le_of_ble_eq_true rfl) rfl rfl ?_
      refine g_goto (tgt := 86) dX8_refresh_163 rfl ?_
      exact g_sub (ls' := [aP 40, aP 3, aI (x2 + (-1)), aU]) ⟨Or.inr rfl, Or.inr rfl, Or.inr rfl, Or.inl rfl, trivial⟩ w
    · exact g_retV dX8_refresh_101 rfl w
theorem e_X8_refresh {l : Launch} {D : Nat} {ζ : ZP} {h : HI} {Q : HI → Prop} (hn : 144 ≤ ζ.2.2.2.2) (w : (rg (h 40 0)) ∧ (if ¬ (h 40 0) = 0 then (G l (D + 1) 0 0 mX8_refresh (zz ζ) 15 [aP 40, aP 3, aI 0, aU] [] (hu h 40 0 0) (qV (zz ζ) Q)) else (Q h))) : RtV l (D + 1) mX8_refresh (zz ζ) [aP 40, aP 3] h Q := by
  refine RtV.of 2 pn_X8 [aP 40, aP 3, aU, aU] rfl rfl ?_
  refine g_aload_n dX8_refresh_0 rfl ?_
  refine g_getI (J := 0) dX8_refresh_1 fl_X8_9 sh_40 (al_40 hn) (fun _ _ _ => rfl) rfl ?_
  obtain ⟨o1, w⟩ := w
  refine g_if_ne (tgt := 8) dX8_refresh_4 rfl o1 ?_
  refine ite_imp (fun w => ?_) (fun w => ?_) w
  · refine g_aload_n dX8_refresh_8 rfl ?_
    refine g_iconst dX8_refresh_9 ?_
    refine g_putZ (J := 0) dX8_refresh_10 fl_X8_9 sh_40 (al_40 hn) rfl rfl (Or.inl rfl) ?_
    refine g_iconst dX8_refresh_13 ?_
    refine g_istore_n (ls' := [aP 40, aP 3, aI 0, aU]) dX8_refresh_14 (Nat.le_of_ble_eq_true rfl) rfl rfl ?_
    exact g_sub (ls' := [aP 40, aP 3, aI 0, aU]) ⟨Or.inr rfl, Or.inr rfl, Or.inr rfl, Or.inl rfl, trivial⟩ w
  · exact g_retV dX8_refresh_7 rfl w
theorem b_X8_findFirst_2 {l : Launch} {D : Nat} {ζ : ZP} {h : HI} {Q : HI → Prop} {x2 : Int} (hn : 144 ≤ ζ.2.2.2.2) (w : (rg x2) ∧ (rg ((h 3 3) * 6)) ∧ (if ((h 3 3) * 6) ≤ x2 then (G l (D + 1) 0 0 mX8_findFirst (zz ζ) 33 [aP 40, aP 3, aI ((h 3 5) - 1)] [] h (qV (zz ζ) Q)) else ((0 ≤ x2 ∧ x2 < 360) ∧ G l (D + 1) 0 0 mX8_findFirst (zz ζ) 2 [aP 40, aP 3, aI (x2 + 1)] [] (hu h 49 x2 (-1)) (qV (zz ζ) Q)))) : G l (D + 1) 0 0 mX8_findFirst (zz ζ) 2 [aP 40, aP 3, aI x2] [] h (qV (zz ζ) Q) := by
  refine g_iload_n dX8_findFirst_2 rfl ?_
  refine g_aload_n dX8_findFirst_3 rfl ?_
  refine g_getI (J := 3) dX8_findFirst_4 fl_X8_85 sh_3 (al_3 hn) (fun _ _ _ => rfl) rfl ?_
  refine g_bipush dX8_findFirst_7 rfl ?_
  refine g_imul dX8_findFirst_9 ?_
  obtain ⟨o1, w⟩ := w
  obtain ⟨o2, w⟩ := w
  refine g_cmp_ge (tgt := 26) dX8_findFirst_10 rfl o1 o2 ?_
  refine ite_imp (fun w => ?_) (fun w => ?_) w
  · refine g_aload_n dX8_findFirst_26 rfl ?_
    refine g_getI (J := 5) dX8_findFirst_27 fl_X8_95 sh_3 (al_3 hn) (fun _ _ _ => rfl) rfl ?_
    refine g_iconst dX8_findFirst_30 ?_
    refine g_isub dX8_findFirst_31 ?_
    refine g_istore_n (ls' := [aP 40, aP 3, aI ((h 3 5) - 1)]) dX8_findFirst_32 (Nat.le_of_ble_eq_true rfl) rfl rfl ?_
    exact g_sub (ls' := [aP 40, aP 3, aI ((h 3 5) - 1)]) ⟨Or.inr rfl, Or.inr rfl, Or.inr rfl, trivial⟩ w
  · refine g_aload_n dX8_findFirst_13 rfl ?_
    refine g_getR dX8_findFirst_14 fl_X8_41 sh_40 (al_40 hn) (fun _ _ _ => rfl) rf_40_9 ?_
    refine g_iload_n dX8_findFirst_17 rfl ?_
    refine g_iconst dX8_findFirst_18 ?_
    obtain ⟨o3, w⟩ := w
    refine g_iast dX8_findFirst_19 sh_49 (al_49 hn) (Nat.le_of_ble_eq_true rfl) o3 ?_
    refine g_iinc (ls' := [aP 40, aP 3, aI (x2 + 1)]) dX8_findFirst_20 rfl (Nat.le_of_ble_eq_true rfl) rfl rfl ?_
    refine g_goto (tgt := 2) dX8_findFirst_23 rfl ?_
    exact g_sub (ls' := [aP 40, aP 3, aI (x2 + 1)]) ⟨Or.inr rfl, Or.inr rfl, Or.inr rfl, trivial⟩ w
theorem b_X8_findFirst_33 {l : Launch} {D : Nat} {ζ : ZP} {h : HI} {Q : HI → Prop} {x2 : Int} (hn : 144 ≤ ζ.2.2.2.2) (w : (rg x2) ∧ (if x2 < 0 then (Q h) else ((0 ≤ x2 ∧ x2 < 200) ∧ (0 ≤ (((h 23 x2) * 6) + (h 24 x2)) ∧ (((h 23 x2) * 6) + (h 24 x2)) < 360) ∧ G l (D + 1) 0 0 mX8_findFirst (zz ζ) 33 [aP 40, aP 3, aI (x2 + (-1))] [] (hu h 49 (((h 23 x2) * 6) + (h 24 x2)) x2) (qV (zz ζ) Q)))) : G l (D + 1) 0 0 mX8_findFirst (zz ζ) 33 [aP 40, aP 3, aI x2] [] h (qV (zz ζ) Q) := by
  refine g_iload_n dX8_findFirst_33 rfl ?_
  obtain ⟨o1, w⟩ := w
  refine g_if_lt (tgt := 65) dX8_findFirst_34 rfl o1 ?_
  refine ite_imp (fun w => ?_) (fun w => ?_) w
  · exact g_retV dX8_findFirst_65 rfl w
  · refine g_aload_n dX8_findFirst_37 rfl ?_
    refine g_getR dX8_findFirst_38 fl_X8_41 sh_40 (al_40 hn) (fun _ _ _ => rfl) rf_40_9 ?_
    refine g_aload_n dX8_findFirst_41 rfl ?_
    refine g_getR dX8_findFirst_42 fl_X8_98 sh_3 (al_3 hn) (fun _ _ _ => rfl) rf_3_6 ?_
    refine g_iload_n dX8_findFirst_45 rfl ?_
    obtain ⟨o2, w⟩ := w
    refine g_iald dX8_findFirst_46 sh_23 (al_23 hn) (Nat.le_of_ble_eq_true rfl) o2 ?_
    refine g_bipush dX8_findFirst_47 rfl ?_
    refine g_imul dX8_findFirst_49 ?_
    refine g_aload_n dX8_findFirst_50 rfl ?_
    refine g_getR dX8_findFirst_51 fl_X8_101 sh_3 (al_3 hn) (fun _ _ _ => rfl) rf_3_7 ?_
    refine g_iload_n dX8_findFirst_54 rfl ?_
    refine g_iald dX8_findFirst_55 sh_24 (al_24 hn) (Nat.le_of_ble_eq_true rfl) o2 ?_
    refine g_iadd dX8_findFirst_56 ?_
    refine g_iload_n dX8_findFirst_57 rfl ?_
    obtain ⟨o3, w⟩ := w
    refine g_iast dX8_findFirst_58 sh_49 (al_49 hn) (Nat.le_of_ble_eq_true rfl) o3 ?_
    refine g_iinc (ls' := [aP 40, aP 3, aI (x2 + (-1))]) dX8_findFirst_59 rfl (Nat.le_of_ble_eq_true rfl) rfl rfl ?_
    refine g_goto (tgt := 33) dX8_findFirst_62 rfl ?_
    exact g_sub (ls' := [aP 40, aP 3, aI (x2 + (-1))]) ⟨Or.inr rfl, Or.inr rfl, Or.inr rfl, trivial⟩ w
theorem e_X8_findFirst {l : Launch} {D : Nat} {ζ : ZP} {h : HI} {Q : HI → Prop} (hn : 144 ≤ ζ.2.2.2.2) (w : G l (D + 1) 0 0 mX8_findFirst (zz ζ) 2 [aP 40, aP 3, aI 0] [] h (qV (zz ζ) Q)) : RtV l (D + 1) mX8_findFirst (zz ζ) [aP 40, aP 3] h Q := by
  refine RtV.of 1 pn_X8 [aP 40, aP 3, aU] rfl rfl ?_
  refine g_iconst dX8_findFirst_0 ?_
  refine g_istore_n (ls' := [aP 40, aP 3, aI 0]) dX8_findFirst_1 (Nat.le_of_ble_eq_true rfl) rfl rfl ?_
  exact g_sub (ls' := [aP 40, aP 3, aI 0]) ⟨Or.inr rfl, Or.inr rfl, Or.inr rfl, trivial⟩ w
theorem e_X8_shares {l : Launch} {D : Nat} {ζ : ZP} {h : HI} {Q : Int → HI → Prop} {x1 x2 : Int} (hn : 144 ≤ ζ.2.2.2.2) (w : RtI l D mX8_has (zz ζ) [aP 40, aI x1] h (fun r1 h1 => (rg r1) ∧ (if r1 = 0 then (Q 0 h1) else ((0 ≤ ((x1 * 6) + x2) ∧ ((x1 * 6) + x2) < 360) ∧ (rg (h1 49 ((x1 * 6) + x2))) ∧ (if (h1 49 ((x1 * 6) + x2)) = (-1) then (Q 0 h1) else (Q 1 h1)))))) : RtI l (D + 1) mX8_shares (zz ζ) [aP 40, aI x1, aI x2] h Q := by
  refine RtI.of 0 pn_X8 [aP 40, aI x1, aI x2] rfl rfl ?_
  refine g_aload_n dX8_shares_0 rfl ?_
  refine g_iload_n dX8_shares_1 rfl ?_
  refine g_callVI (n := 1) (As := [aI x1]) (st := []) dX8_shares_2 ml_X8_52 sh_40 rfl (al_40 hn) rfl rfl (Nat.le_of_ble_eq_true rfl) (RtI.mono w (fun r1 h1 w => ?_))
  obtain ⟨o1, w⟩ := w
  refine g_if_eq (tgt := 27) dX8_shares_5 rfl o1 ?_
  refine ite_imp (fun w => ?_) (fun w => ?_) w
  · refine g_iconst dX8_shares_27 ?_
    exact g_retZ dX8_shares_28 rfl (Or.inl rfl) w
  · refine g_aload_n dX8_shares_8 rfl ?_
    refine g_getR dX8_shares_9 fl_X8_41 sh_40 (al_40 hn) (fun _ _ _ => rfl) rf_40_9 ?_
    refine g_iload_n dX8_shares_12 rfl ?_
    refine g_bipush dX8_shares_13 rfl ?_
    refine g_imul dX8_shares_15 ?_
    refine g_iload_n dX8_shares_16 rfl ?_
    refine g_iadd dX8_shares_17 ?_
    obtain ⟨o2, w⟩ := w
    refine g_iald dX8_shares_18 sh_49 (al_49 hn) (Nat.le_of_ble_eq_true rfl) o2 ?_
    refine g_iconst dX8_shares_19 ?_
    obtain ⟨o3, w⟩ := w
    refine g_cmp_eq (tgt := 27) dX8_shares_20 rfl o3 (by decide) ?_
    refine ite_imp (fun w => ?_) (fun w => ?_) w
    · refine g_iconst dX8_shares_27 ?_
      exact g_retZ dX8_shares_28 rfl (Or.inl rfl) w
    · refine g_iconst dX8_shares_23 ?_
      refine g_goto (tgt := 28) dX8_shares_24 rfl ?_
      exact g_retZ dX8_shares_28 rfl (Or.inr rfl) w
theorem b_X8_nextBench_7 {l : Launch} {D : Nat} {ζ : ZP} {h : HI} {Q : Int → HI → Prop} {x2 x3 x4 : Int} (hn : 144 ≤ ζ.2.2.2.2) (w : (rg x4) ∧ (rg (h 4 3)) ∧ (if (h 4 3) ≤ x4 then (Q x2 h) else (G l (D + 1) 0 0 mX8_nextBench (zz ζ) 25 [aP 40, aP 3, aI x2, aI x3, aI x4, aI 0, aI 0] [] h (qI (zz ζ) Q)))) : G l (D + 1) 0 0 mX8_nextBench (zz ζ) 7 [aP 40, aP 3, aI x2, aI x3, aI x4, aU, aU] [] h (qI (zz ζ) Q) := by
  refine g_iload dX8_nextBench_7 rfl ?_
  refine g_aload_n dX8_nextBench_9 rfl ?_
  refine g_getR dX8_nextBench_10 fl_X8_59 sh_3 (al_3 hn) (fun _ _ _ => rfl) rf_3_0 ?_
  refine g_getI (J := 3) dX8_nextBench_13 fl_X8_65 sh_4 (al_4 hn) (fun _ _ _ => rfl) rfl ?_
  obtain ⟨o1, w⟩ := w
  obtain ⟨o2, w⟩ := w
  refine g_cmp_ge (tgt := 89) dX8_nextBench_16 rfl o1 o2 ?_
  refine ite_imp (fun w => ?_) (fun w => ?_) w
  · refine g_iload_n dX8_nextBench_89 rfl ?_
    exact g_retI dX8_nextBench_90 rfl w
  · refine g_iconst dX8_nextBench_19 ?_
    refine g_istore (ls' := [aP 40, aP 3, aI x2, aI x3, aI x4, aI 0, aU]) dX8_nextBench_20 (Nat.le_of_ble_eq_true rfl) rfl rfl ?_
    refine g_iconst dX8_nextBench_22 ?_
    refine g_istore (ls' := [aP 40, aP 3, aI x2, aI x3, aI x4, aI 0, aI 0]) dX8_nextBench_23 (Nat.le_of_ble_eq_true rfl) rfl rfl ?_
    exact g_sub (ls' := [aP 40, aP 3, aI x2, aI x3, aI x4, aI 0, aI 0]) ⟨Or.inr rfl, Or.inr rfl, Or.inr rfl, Or.inr rfl, Or.inr rfl, Or.inr rfl, Or.inr rfl, trivial⟩ w
theorem b_X8_nextBench_25 {l : Launch} {D : Nat} {ζ : ZP} {h : HI} {Q : Int → HI → Prop} {x2 x3 x4 x5 x6 : Int} (hn : 144 ≤ ζ.2.2.2.2) (w : (rg x6) ∧ (rg (h 3 3)) ∧ (if (h 3 3) ≤ x6 then ((rg x5) ∧ (rg x3) ∧ (if x5 ≤ x3 then (G l (D + 1) 0 0 mX8_nextBench (zz ζ) 7 [aP 40, aP 3, aI x2, aI x3, aI (x4 + 1), aU, aU] [] h (qI (zz ζ) Q)) else (G l (D + 1) 0 0 mX8_nextBench (zz ζ) 7 [aP 40, aP 3, aI x4, aI x5, aI (x4 + 1), aU, aU] [] h (qI (zz ζ) Q)))) else ((0 ≤ x4 ∧ x4 < 6) ∧ (rg (h 41 x4)) ∧ (if ¬ (h 41 x4) = 0 then ((rg x5) ∧ (rg x3) ∧ (if x5 ≤ x3 then (G l (D + 1) 0 0 mX8_nextBench (zz ζ) 7 [aP 40, aP 3, aI x2, aI x3, aI (x4 + 1), aU, aU] [] h (qI (zz ζ) Q)) else (G l (D + 1) 0 0 mX8_nextBench (zz ζ) 7 [aP 40, aP 3, aI x4, aI x5, aI (x4 + 1), aU, aU] [] h (qI (zz ζ) Q)))) else (RtI l D mX8_shares (zz ζ) [aP 40, aI x6, aI x4] h (fun r1 h1 => (rg r1) ∧ (if r1 = 0 then (G l (D + 1) 0 0 mX8_nextBench (zz ζ) 25 [aP 40, aP 3, aI x2, aI x3, aI x4, aI (x5 + 0), aI (x6 + 1)] [] h1 (qI (zz ζ) Q)) else (G l (D + 1) 0 0 mX8_nextBench (zz ζ) 25 [aP 40, aP 3, aI x2, aI x3, aI x4, aI (x5 + 1), aI (x6 + 1)] [] h1 (qI (zz ζ) Q))))))))) : G l (D + 1) 0 0 mX8_nextBench (zz ζ) 25 [aP 40, aP 3, aI x2, aI x3, aI x4, aI x5, aI x6] [] h (qI (zz ζ) Q) := by
  refine g_iload dX8_nextBench_25 rfl ?_
  refine g_aload_n dX8_nextBench_27 rfl ?_
  refine g_getI (J := 3) dX8_nextBench_28 fl_X8_85 sh_3 (al_3 hn) (fun _ _ _ => rfl) rfl ?_
  obtain ⟨o1, w⟩ := w
  obtain ⟨o2, w⟩ := w
  refine g_cmp_ge (tgt := 71) dX8_nextBench_31 rfl o1 o2 ?_
  refine ite_imp (fun w => ?_) (fun w => ?_) w
  · refine g_iload dX8_nextBench_71 rfl ?_
    refine g_iload_n dX8_nextBench_73 rfl ?_
    obtain ⟨o3, w⟩ := w
    obtain ⟨o4, w⟩ := w
    refine g_cmp_le (tgt := 83) dX8_nextBench_74 rfl o3 o4 ?_
    refine ite_imp (fun w => ?_) (fun w => ?_) w
    · refine g_iinc (ls' := [aP 40, aP 3, aI x2, aI x3, aI (x4 + 1), aI x5, aI x6]) dX8_nextBench_83 rfl (Nat.le_of_ble_eq_true rfl) rfl rfl ?_
      refine g_goto (tgt := 7) dX8_nextBench_86 rfl ?_
      exact g_sub (ls' := [aP 40, aP 3, aI x2, aI x3, aI (x4 + 1), aU, aU]) ⟨Or.inr rfl, Or.inr rfl, Or.inr rfl, Or.inr rfl, Or.inr rfl, Or.inl rfl, Or.inl rfl, trivial⟩ w
    · refine g_iload dX8_nextBench_77 rfl ?_
      refine g_istore_n (ls' := [aP 40, aP 3, aI x2, aI x5, aI x4, aI x5, aI x6]) dX8_nextBench_79 (Nat.le_of_ble_eq_true rfl) rfl rfl ?_
      refine g_iload dX8_nextBench_80 rfl ?_
      refine g_istore_n (ls' := [aP 40, aP 3, aI x4, aI x5, aI x4, aI x5, aI x6]) dX8_nextBench_82 (Nat.le_of_ble_eq_true rfl) rfl rfl ?_
      refine g_iinc (ls' := [aP 40, aP 3, aI x4, aI x5, aI (x4 + 1), aI x5, aI x6]) dX8_nextBench_83 rfl (Nat.le_of_ble_eq_true rfl) rfl rfl ?_
      refine g_goto (tgt := 7) dX8_nextBench_86 rfl ?_
      exact g_sub (ls' := [aP 40, aP 3, aI x4, aI x5, aI (x4 + 1), aU, aU]) ⟨Or.inr rfl, Or.inr rfl, Or.inr rfl, Or.inr rfl, Or.inr rfl, Or.inl rfl, Or.inl rfl, trivial⟩ w
  · refine g_aload_n dX8_nextBench_34 rfl ?_
    refine g_getR dX8_nextBench_35 fl_X8_15 sh_40 (al_40 hn) (fun _ _ _ => rfl) rf_40_1 ?_
    refine g_iload dX8_nextBench_38 rfl ?_
    obtain ⟨o5, w⟩ := w
    refine g_zald dX8_nextBench_40 sh_41 (al_41 hn) (Nat.le_of_ble_eq_true rfl) o5 ?_
    obtain ⟨o6, w⟩ := w
    refine g_if_ne (tgt := 71) dX8_nextBench_41 rfl o6 ?_
    refine ite_imp (fun w => ?_) (fun w => ?_) w
    · refine g_iload dX8_nextBench_71 rfl ?_
      refine g_iload_n dX8_nextBench_73 rfl ?_
      obtain ⟨o7, w⟩ := w
      obtain ⟨o8, w⟩ := w
      refine g_cmp_le (tgt := 83) dX8_nextBench_74 rfl o7 o8 ?_
      refine ite_imp (fun w => ?_) (fun w => ?_) w
      · refine g_iinc (ls' := [aP 40, aP 3, aI x2, aI x3, aI (x4 + 1), aI x5, aI x6]) dX8_nextBench_83 rfl (Nat.le_of_ble_eq_true rfl) rfl rfl ?_
        refine g_goto (tgt := 7) dX8_nextBench_86 rfl ?_
        exact g_sub (ls' := [aP 40, aP 3, aI x2, aI x3, aI (x4 + 1), aU, aU]) ⟨Or.inr rfl, Or.inr rfl, Or.inr rfl, Or.inr rfl, Or.inr rfl, Or.inl rfl, Or.inl rfl, trivial⟩ w
      · refine g_iload dX8_nextBench_77 rfl ?_
        refine g_istore_n (ls' := [aP 40, aP 3, aI x2, aI x5, aI x4, aI x5, aI x6]) dX8_nextBench_79 (Nat.le_of_ble_eq_true rfl) rfl rfl ?_
        refine g_iload dX8_nextBench_80 rfl ?_
        refine g_istore_n (ls' := [aP 40, aP 3, aI x4, aI x5, aI x4, aI x5, aI x6]) dX8_nextBench_82 (Nat.le_of_ble_eq_true rfl) rfl rfl ?_
        refine g_iinc (ls' := [aP 40, aP 3, aI x4, aI x5, aI (x4 + 1), aI x5, aI x6]) dX8_nextBench_83 rfl (Nat.le_of_ble_eq_true rfl) rfl rfl ?_
        refine g_goto (tgt := 7) dX8_nextBench_86 rfl ?_
        exact g_sub (ls' := [aP 40, aP 3, aI x4, aI x5, aI (x4 + 1), aU, aU]) ⟨Or.inr rfl, Or.inr rfl, Or.inr rfl, Or.inr rfl, Or.inr rfl, Or.inl rfl, Or.inl rfl, trivial⟩ w
    · refine g_iload dX8_nextBench_44 rfl ?_
      refine g_aload_n dX8_nextBench_46 rfl ?_
      refine g_iload dX8_nextBench_47 rfl ?_
      refine g_iload dX8_nextBench_49 rfl ?_
      refine g_callVI (n := 2) (As := [aI x6, aI x4]) (st := [aI x5]) dX8_nextBench_51 ml_X8_104 sh_40 rfl (al_40 hn) rfl rfl (Nat.le_of_ble_eq_true rfl) (RtI.mono w (fun r1 h1 w => ?_))
      obtain ⟨o9, w⟩ := w
      refine g_if_eq (tgt := 61) dX8_nextBench_54 rfl o9 ?_
      refine ite_imp (fun w => ?_) (fun w => ?_) w
      · refine g_iconst dX8_nextBench_61 ?_
        refine g_iadd dX8_nextBench_62 ?_
        refine g_istore (ls' := [aP 40, aP 3, aI x2, aI x3, aI x4, aI (x5 + 0), aI x6]) dX8_nextBench_63 (Nat.le_of_ble_eq_true rfl) rfl rfl ?_
        refine g_iinc (ls' := [aP 40, aP 3, aI x2, aI x3, aI x4, aI (x5 + 0), aI (x6 + 1)]) dX8_nextBench_65 rfl (Nat.le_of_ble_eq_true rfl) rfl rfl ?_
        refine g_goto (tgt := 25) dX8_nextBench_68 rfl ?_
        exact g_sub (ls' := [aP 40, aP 3, aI x2, aI x3, aI x4, aI (x5 + 0), aI (x6 + 1)]) ⟨Or.inr rfl, Or.inr rfl, Or.inr rfl, Or.inr rfl, Or.inr rfl, Or.inr rfl, Or.inr rfl, trivial⟩ w
      · refine g_iconst dX8_nextBench_57 ?_
        refine g_goto (tgt := 62) dX8_nextBench_58 rfl ?_
        refine g_iadd dX8_nextBench_62 ?_
        refine g_istore (ls' := [aP 40, aP 3, aI x2, aI x3, aI x4, aI (x5 + 1), aI x6]) dX8_nextBench_63 (Nat.le_of_ble_eq_true rfl) rfl rfl ?_
        refine g_iinc (ls' := [aP 40, aP 3, aI x2, aI x3, aI x4, aI (x5 + 1), aI (x6 + 1)]) dX8_nextBench_65 rfl (Nat.le_of_ble_eq_true rfl) rfl rfl ?_
        refine g_goto (tgt := 25) dX8_nextBench_68 rfl ?_
        exact g_sub (ls' := [aP 40, aP 3, aI x2, aI x3, aI x4, aI (x5 + 1), aI (x6 + 1)]) ⟨Or.inr rfl, Or.inr rfl, Or.inr rfl, Or.inr rfl, Or.inr rfl, Or.inr rfl, Or.inr rfl, trivial⟩ w
theorem e_X8_nextBench {l : Launch} {D : Nat} {ζ : ZP} {h : HI} {Q : Int → HI → Prop} (hn : 144 ≤ ζ.2.2.2.2) (w : G l (D + 1) 0 0 mX8_nextBench (zz ζ) 7 [aP 40, aP 3, aI (-1), aI 0, aI 1, aU, aU] [] h (qI (zz ζ) Q)) : RtI l (D + 1) mX8_nextBench (zz ζ) [aP 40, aP 3] h Q := by
  refine RtI.of 5 pn_X8 [aP 40, aP 3, aU, aU, aU, aU, aU] rfl rfl ?_
  refine g_iconst dX8_nextBench_0 ?_
  refine g_istore_n (ls' := [aP 40, aP 3, aI (-1), aU, aU, aU, aU]) dX8_nextBench_1 (Nat.le_of_ble_eq_true rfl) rfl rfl ?_
  refine g_iconst dX8_nextBench_2 ?_
  refine g_istore_n (ls' := [aP 40, aP 3, aI (-1), aI 0, aU, aU, aU]) dX8_nextBench_3 (Nat.le_of_ble_eq_true rfl) rfl rfl ?_
  refine g_iconst dX8_nextBench_4 ?_
  refine g_istore (ls' := [aP 40, aP 3, aI (-1), aI 0, aI 1, aU, aU]) dX8_nextBench_5 (Nat.le_of_ble_eq_true rfl) rfl rfl ?_
  exact g_sub (ls' := [aP 40, aP 3, aI (-1), aI 0, aI 1, aU, aU]) ⟨Or.inr rfl, Or.inr rfl, Or.inr rfl, Or.inr rfl, Or.inr rfl, Or.inl rfl, Or.inl rfl, trivial⟩ w
theorem b_X8_middle_h_6 {l : Launch} {D : Nat} {ζ : ZP} {h : HI} {Q : Int → HI → Prop} {x1 x4 x5 x6 : Int} (hn : 144 ≤ ζ.2.2.2.2) (w : (rg x6) ∧ (rg x4) ∧ (if x4 ≤ x6 then ((rg x5) ∧ (if ¬ x5 = 0 then ((rg (x5 - 1)) ∧ (0 ≤ ((x5 - 1).tdiv 2) ∧ ((x5 - 1).tdiv 2) < 60) ∧ Q (h 50 ((x5 - 1).tdiv 2)) h) else (Q 0 h))) else (RtI l D mX8_shares (zz ζ) [aP 40, aI x6, aI x1] h (fun r1 h1 => (rg r1) ∧ (if r1 = 0 then (G l (D + 1) 0 0 mX8_middle (zz ζ) 6 [aP 40, aI x1, aP 25, aP 44, aI x4, aI x5, aI (x6 + 1), aU, aU] [] h1 (qI (zz ζ) Q)) else ((0 ≤ ((x6 * 6) + x1) ∧ ((x6 * 6) + x1) < 360) ∧ (0 ≤ (h1 49 ((x6 * 6) + x1)) ∧ (h1 49 ((x6 * 6) + x1)) < 200) ∧ (0 ≤ x6 ∧ x6 < 60) ∧ G l (D + 1) 0 0 mX8_middle (zz ζ) 48 [aP 40, aI x1, aP 25, aP 44, aI x4, aI x5, aI x6, aI ((h1 25 (h1 49 ((x6 * 6) + x1))) - (h1 44 x6)), aI x5] [] h1 (qI (zz ζ) Q))))))) : G l (D + 1) 0 0 mX8_middle (zz ζ) 6 [aP 40, aI x1, aP 25, aP 44, aI x4, aI x5, aI x6, aU, aU] [] h (qI (zz ζ) Q) := by
  refine g_iload dX8_middle_6 rfl ?_
  refine g_iload dX8_middle_8 rfl ?_
  obtain ⟨o1, w⟩ := w
  obtain ⟨o2, w⟩ := w
  refine g_cmp_ge (tgt := 107) dX8_middle_10 rfl o1 o2 ?_
  refine ite_imp (fun w => ?_) (fun w => ?_) w
  · refine g_iload dX8_middle_107 rfl ?_
    obtain ⟨o3, w⟩ := w
    refine g_if_ne (tgt := 116) dX8_middle_109 rfl o3 ?_
    refine ite_imp (fun w => ?_) (fun w => ?_) w
    · refine g_aload_n dX8_middle_116 rfl ?_
      refine g_getR dX8_middle_117 fl_X8_44 sh_40 (al_40 hn) (fun _ _ _ => rfl) rf_40_10 ?_
      refine g_iload dX8_middle_120 rfl ?_
      refine g_iconst dX8_middle_122 ?_
      refine g_isub dX8_middle_123 ?_
      refine g_iconst dX8_middle_124 ?_
      obtain ⟨o4, w⟩ := w
      refine g_idiv dX8_middle_125 o4 (by decide) (by decide) ?_
      obtain ⟨o5, w⟩ := w
      refine g_iald dX8_middle_126 sh_50 (al_50 hn) (Nat.le_of_ble_eq_true rfl) o5 ?_
      exact g_retI dX8_middle_127 rfl w
    · refine g_iconst dX8_middle_112 ?_
      refine g_goto (tgt := 127) dX8_middle_113 rfl ?_
      exact g_retI dX8_middle_127 rfl w
  · refine g_aload_n dX8_middle_13 rfl ?_
    refine g_iload dX8_middle_14 rfl ?_
    refine g_iload_n dX8_middle_16 rfl ?_
    refine g_callVI (n := 2) (As := [aI x6, aI x1]) (st := []) dX8_middle_17 ml_X8_104 sh_40 rfl (al_40 hn) rfl rfl (Nat.le_of_ble_eq_true rfl) (RtI.mono w (fun r1 h1 w => ?_))
    obtain ⟨o6, w⟩ := w
    refine g_if_eq (tgt := 101) dX8_middle_20 rfl o6 ?_
    refine ite_imp (fun w => ?_) (fun w => ?_) w
    · refine g_iinc (ls' := [aP 40, aI x1, aP 25, aP 44, aI x4, aI x5, aI (x6 + 1), aU, aU]) dX8_middle_101 rfl (Nat.le_of_ble_eq_true rfl) rfl rfl ?_
      refine g_goto (tgt := 6) dX8_middle_104 rfl ?_
      exact g_sub (ls' := [aP 40, aI x1, aP 25, aP 44, aI x4, aI x5, aI (x6 + 1), aU, aU]) ⟨Or.inr rfl, Or.inr rfl, Or.inr rfl, Or.inr rfl, Or.inr rfl, Or.inr rfl, Or.inr rfl, Or.inl rfl, Or.inl rfl, trivial⟩ w
    · refine g_aload_n dX8_middle_23 rfl ?_
      refine g_aload_n dX8_middle_24 rfl ?_
      refine g_getR dX8_middle_25 fl_X8_41 sh_40 (al_40 hn) (fun _ _ _ => rfl) rf_40_9 ?_
      refine g_iload dX8_middle_28 rfl ?_
      refine g_bipush dX8_middle_30 rfl ?_
      refine g_imul dX8_middle_32 ?_
      refine g_iload_n dX8_middle_33 rfl ?_
      refine g_iadd dX8_middle_34 ?_
      obtain ⟨o7, w⟩ := w
      refine g_iald dX8_middle_35 sh_49 (al_49 hn) (Nat.le_of_ble_eq_true rfl) o7 ?_
      obtain ⟨o8, w⟩ := w
      refine g_iald dX8_middle_36 sh_25 (al_25 hn) (Nat.le_of_ble_eq_true rfl) o8 ?_
      refine g_aload_n dX8_middle_37 rfl ?_
      refine g_iload dX8_middle_38 rfl ?_
      obtain ⟨o9, w⟩ := w
      refine g_iald dX8_middle_40 sh_44 (al_44 hn) (Nat.le_of_ble_eq_true rfl) o9 ?_
      refine g_isub dX8_middle_41 ?_
      refine g_istore (ls' := [aP 40, aI x1, aP 25, aP 44, aI x4, aI x5, aI x6, aI ((h1 25 (h1 49 ((x6 * 6) + x1))) - (h1 44 x6)), aU]) dX8_middle_42 (Nat.le_of_ble_eq_true rfl) rfl rfl ?_
      refine g_iload dX8_middle_44 rfl ?_
      refine g_istore (ls' := [aP 40, aI x1, aP 25, aP 44, aI x4, aI x5, aI x6, aI ((h1 25 (h1 49 ((x6 * 6) + x1))) - (h1 44 x6)), aI x5]) dX8_middle_46 (Nat.le_of_ble_eq_true rfl) rfl rfl ?_
      exact g_sub (ls' := [aP 40, aI x1, aP 25, aP 44, aI x4, aI x5, aI x6, aI ((h1 25 (h1 49 ((x6 * 6) + x1))) - (h1 44 x6)), aI x5]) ⟨Or.inr rfl, Or.inr rfl, Or.inr rfl, Or.inr rfl, Or.inr rfl, Or.inr rfl, Or.inr rfl, Or.inr rfl, Or.inr rfl, trivial⟩ w
theorem b_X8_middle_h_48 {l : Launch} {D : Nat} {ζ : ZP} {h : HI} {Q : Int → HI → Prop} {x1 x4 x5 x6 x7 x8 : Int} (hn : 144 ≤ ζ.2.2.2.2) (w : (rg x8) ∧ (if x8 ≤ 0 then ((0 ≤ x8 ∧ x8 < 60) ∧ G l (D + 1) 0 0 mX8_middle (zz ζ) 6 [aP 40, aI x1, aP 25, aP 44, aI x4, aI (x5 + 1), aI (x6 + 1), aU, aU] [] (hu h 50 x8 x7) (qI (zz ζ) Q)) else ((0 ≤ (x8 - 1) ∧ (x8 - 1) < 60) ∧ (rg (h 50 (x8 - 1))) ∧ (rg x7) ∧ (if (h 50 (x8 - 1)) ≤ x7 then ((0 ≤ x8 ∧ x8 < 60) ∧ G l (D + 1) 0 0 mX8_middle (zz ζ) 6 [aP 40, aI x1, aP 25, aP 44, aI x4, aI (x5 + 1), aI (x6 + 1), aU, aU] [] (hu h 50 x8 x7) (qI (zz ζ) Q)) else ((0 ≤ x8 ∧ x8 < 60) ∧ G l (D + 1) 0 0 mX8_middle (zz ζ) 48 [aP 40, aI x1, aP 25, aP 44, aI x4, aI x5, aI x6, aI x7, aI (x8 + (-1))] [] (hu h 50 x8 (h 50 (x8 - 1))) (qI (zz ζ) Q)))))) : G l (D + 1) 0 0 mX8_middle (zz ζ) 48 [aP 40, aI x1, aP 25, aP 44, aI x4, aI x5, aI x6, aI x7, aI x8] [] h (qI (zz ζ) Q) := by
  refine g_iload dX8_middle_48 rfl ?_
  obtain ⟨o1, w⟩ := w
  refine g_if_le (tgt := 89) dX8_middle_50 rfl o1 ?_
  refine ite_imp (fun w => ?_) (fun w => ?_) w
  · refine g_aload_n dX8_middle_89 rfl ?_
    refine g_getR dX8_middle_90 fl_X8_44 sh_40 (al_40 hn) (fun _ _ _ => rfl) rf_40_10 ?_
    refine g_iload dX8_middle_93 rfl ?_
    refine g_iload dX8_middle_95 rfl ?_
    obtain ⟨o2, w⟩ := w
    refine g_iast dX8_middle_97 sh_50 (al_50 hn) (Nat.le_of_ble_eq_true rfl) o2 ?_
    refine g_iinc (ls' := [aP 40, aI x1, aP 25, aP 44, aI x4, aI (x5 + 1), aI x6, aI x7, aI x8]) dX8_middle_98 rfl (Nat.le_of_ble_eq_true rfl) rfl rfl ?_
    refine g_iinc (ls' := [aP 40, aI x1, aP 25, aP 44, aI x4, aI (x5 + 1), aI (x6 + 1), aI x7, aI x8]) dX8_middle_101 rfl (Nat.le_of_ble_eq_true rfl) rfl rfl ?_
    refine g_goto (tgt := 6) dX8_middle_104 rfl ?_
    exact g_sub (ls' := [aP 40, aI x1, aP 25, aP 44, aI x4, aI (x5 + 1), aI (x6 + 1), aU, aU]) ⟨Or.inr rfl, Or.inr rfl, Or.inr rfl, Or.inr rfl, Or.inr rfl, Or.inr rfl, Or.inr rfl, Or.inl rfl, Or.inl rfl, trivial⟩ w
  · refine g_aload_n dX8_middle_53 rfl ?_
    refine g_getR dX8_middle_54 fl_X8_44 sh_40 (al_40 hn) (fun _ _ _ => rfl) rf_40_10 ?_
    refine g_iload dX8_middle_57 rfl ?_
    refine g_iconst dX8_middle_59 ?_
    refine g_isub dX8_middle_60 ?_
    obtain ⟨o3, w⟩ := w
    refine g_iald dX8_middle_61 sh_50 (al_50 hn) (Nat.le_of_ble_eq_true rfl) o3 ?_
    refine g_iload dX8_middle_62 rfl ?_
    obtain ⟨o4, w⟩ := w
    obtain ⟨o5, w⟩ := w
    refine g_cmp_le (tgt := 89) dX8_middle_64 rfl o4 o5 ?_
    refine ite_imp (fun w => ?_) (fun w => ?_) w
    · refine g_aload_n dX8_middle_89 rfl ?_
      refine g_getR dX8_middle_90 fl_X8_44 sh_40 (al_40 hn) (fun _ _ _ => rfl) rf_40_10 ?_
      refine g_iload dX8_middle_93 rfl ?_
      refine g_iload dX8_middle_95 rfl ?_
      obtain ⟨o6, w⟩ := w
      refine g_iast dX8_middle_97 sh_50 (al_50 hn) (Nat.le_of_ble_eq_true rfl) o6 ?_
      refine g_iinc (ls' := [aP 40, aI x1, aP 25, aP 44, aI x4, aI (x5 + 1), aI x6, aI x7, aI x8]) dX8_middle_98 rfl (Nat.le_of_ble_eq_true rfl) rfl rfl ?_
      refine g_iinc (ls' := [aP 40, aI x1, aP 25, aP 44, aI x4, aI (x5 + 1), aI (x6 + 1), aI x7, aI x8]) dX8_middle_101 rfl (Nat.le_of_ble_eq_true rfl) rfl rfl ?_
      refine g_goto (tgt := 6) dX8_middle_104 rfl ?_
      exact g_sub (ls' := [aP 40, aI x1, aP 25, aP 44, aI x4, aI (x5 + 1), aI (x6 + 1), aU, aU]) ⟨Or.inr rfl, Or.inr rfl, Or.inr rfl, Or.inr rfl, Or.inr rfl, Or.inr rfl, Or.inr rfl, Or.inl rfl, Or.inl rfl, trivial⟩ w
    · refine g_aload_n dX8_middle_67 rfl ?_
      refine g_getR dX8_middle_68 fl_X8_44 sh_40 (al_40 hn) (fun _ _ _ => rfl) rf_40_10 ?_
      refine g_iload dX8_middle_71 rfl ?_
      refine g_aload_n dX8_middle_73 rfl ?_
      refine g_getR dX8_middle_74 fl_X8_44 sh_40 (al_40 hn) (fun _ _ _ => rfl) rf_40_10 ?_
      refine g_iload dX8_middle_77 rfl ?_
      refine g_iconst dX8_middle_79 ?_
      refine g_isub dX8_middle_80 ?_
      refine g_iald dX8_middle_81 sh_50 (al_50 hn) (Nat.le_of_ble_eq_true rfl) o3 ?_
      obtain ⟨o7, w⟩ := w
      refine g_iast dX8_middle_82 sh_50 (al_50 hn) (Nat.le_of_ble_eq_true rfl) o7 ?_
      refine g_iinc (ls' := [aP 40, aI x1, aP 25, aP 44, aI x4, aI x5, aI x6, aI x7, aI (x8 + (-1))]) dX8_middle_83 rfl (Nat.le_of_ble_eq_true rfl) rfl rfl ?_
      refine g_goto (tgt := 48) dX8_middle_86 rfl ?_
      exact g_sub (ls' := [aP 40, aI x1, aP 25, aP 44, aI x4, aI x5, aI x6, aI x7, aI (x8 + (-1))]) ⟨Or.inr rfl, Or.inr rfl, Or.inr rfl, Or.inr rfl, Or.inr rfl, Or.inr rfl, Or.inr rfl, Or.inr rfl, Or.inr rfl, trivial⟩ w
theorem e_X8_middle_h {l : Launch} {D : Nat} {ζ : ZP} {h : HI} {Q : Int → HI → Prop} {x1 x4 : Int} (hn : 144 ≤ ζ.2.2.2.2) (w : G l (D + 1) 0 0 mX8_middle (zz ζ) 6 [aP 40, aI x1, aP 25, aP 44, aI x4, aI 0, aI 0, aU, aU] [] h (qI (zz ζ) Q)) : RtI l (D + 1) mX8_middle (zz ζ) [aP 40, aI x1, aP 25, aP 44, aI x4] h Q := by
  refine RtI.of 4 pn_X8 [aP 40, aI x1, aP 25, aP 44, aI x4, aU, aU, aU, aU] rfl rfl ?_
  refine g_iconst dX8_middle_0 ?_
  refine g_istore (ls' := [aP 40, aI x1, aP 25, aP 44, aI x4, aI 0, aU, aU, aU]) dX8_middle_1 (Nat.le_of_ble_eq_true rfl) rfl rfl ?_
  refine g_iconst dX8_middle_3 ?_
  refine g_istore (ls' := [aP 40, aI x1, aP 25, aP 44, aI x4, aI 0, aI 0, aU, aU]) dX8_middle_4 (Nat.le_of_ble_eq_true rfl) rfl rfl ?_
  exact g_sub (ls' := [aP 40, aI x1, aP 25, aP 44, aI x4, aI 0, aI 0, aU, aU]) ⟨Or.inr rfl, Or.inr rfl, Or.inr rfl, Or.inr rfl, Or.inr rfl, Or.inr rfl, Or.inr rfl, Or.inl rfl, Or.inl rfl, trivial⟩ w
theorem b_X8_middle_p_6 {l : Launch} {D : Nat} {ζ : ZP} {h : HI} {Q : Int → HI → Prop} {x1 x4 x5 x6 : Int} (hn : 144 ≤ ζ.2.2.2.2) (w : (rg x6) ∧ (rg x4) ∧ (if x4 ≤ x6 then ((rg x5) ∧ (if ¬ x5 = 0 then ((rg (x5 - 1)) ∧ (0 ≤ ((x5 - 1).tdiv 2) ∧ ((x5 - 1).tdiv 2) < 60) ∧ Q (h 50 ((x5 - 1).tdiv 2)) h) else (Q 0 h))) else (RtI l D mX8_shares (zz ζ) [aP 40, aI x6, aI x1] h (fun r1 h1 => (rg r1) ∧ (if r1 = 0 then (G l (D + 1) 0 0 mX8_middle (zz ζ) 6 [aP 40, aI x1, aP 26, aP 45, aI x4, aI x5, aI (x6 + 1), aU, aU] [] h1 (qI (zz ζ) Q)) else ((0 ≤ ((x6 * 6) + x1) ∧ ((x6 * 6) + x1) < 360) ∧ (0 ≤ (h1 49 ((x6 * 6) + x1)) ∧ (h1 49 ((x6 * 6) + x1)) < 200) ∧ (0 ≤ x6 ∧ x6 < 60) ∧ G l (D + 1) 0 0 mX8_middle (zz ζ) 48 [aP 40, aI x1, aP 26, aP 45, aI x4, aI x5, aI x6, aI ((h1 26 (h1 49 ((x6 * 6) + x1))) - (h1 45 x6)), aI x5] [] h1 (qI (zz ζ) Q))))))) : G l (D + 1) 0 0 mX8_middle (zz ζ) 6 [aP 40, aI x1, aP 26, aP 45, aI x4, aI x5, aI x6, aU, aU] [] h (qI (zz ζ) Q) := by
  refine g_iload dX8_middle_6 rfl ?_
  refine g_iload dX8_middle_8 rfl ?_
  obtain ⟨o1, w⟩ := w
  obtain ⟨o2, w⟩ := w
  refine g_cmp_ge (tgt := 107) dX8_middle_10 rfl o1 o2 ?_
  refine ite_imp (fun w => ?_) (fun w => ?_) w
  · refine g_iload dX8_middle_107 rfl ?_
    obtain ⟨o3, w⟩ := w
    refine g_if_ne (tgt := 116) dX8_middle_109 rfl o3 ?_
    refine ite_imp (fun w => ?_) (fun w => ?_) w
    · refine g_aload_n dX8_middle_116 rfl ?_
      refine g_getR dX8_middle_117 fl_X8_44 sh_40 (al_40 hn) (fun _ _ _ => rfl) rf_40_10 ?_
      refine g_iload dX8_middle_120 rfl ?_
      refine g_iconst dX8_middle_122 ?_
      refine g_isub dX8_middle_123 ?_
      refine g_iconst dX8_middle_124 ?_
      obtain ⟨o4, w⟩ := w
      refine g_idiv dX8_middle_125 o4 (by decide) (by decide) ?_
      obtain ⟨o5, w⟩ := w
      refine g_iald dX8_middle_126 sh_50 (al_50 hn) (Nat.le_of_ble_eq_true rfl) o5 ?_
      exact g_retI dX8_middle_127 rfl w
    · refine g_iconst dX8_middle_112 ?_
      refine g_goto (tgt := 127) dX8_middle_113 rfl ?_
      exact g_retI dX8_middle_127 rfl w
  · refine g_aload_n dX8_middle_13 rfl ?_
    refine g_iload dX8_middle_14 rfl ?_
    refine g_iload_n dX8_middle_16 rfl ?_
    refine g_callVI (n := 2) (As := [aI x6, aI x1]) (st := []) dX8_middle_17 ml_X8_104 sh_40 rfl (al_40 hn) rfl rfl (Nat.le_of_ble_eq_true rfl) (RtI.mono w (fun r1 h1 w => ?_))
    obtain ⟨o6, w⟩ := w
    refine g_if_eq (tgt := 101) dX8_middle_20 rfl o6 ?_
    refine ite_imp (fun w => ?_) (fun w => ?_) w
    · refine g_iinc (ls' := [aP 40, aI x1, aP 26, aP 45, aI x4, aI x5, aI (x6 + 1), aU, aU]) dX8_middle_101 rfl (Nat.le_of_ble_eq_true rfl) rfl rfl ?_
      refine g_goto (tgt := 6) dX8_middle_104 rfl ?_
      exact g_sub (ls' := [aP 40, aI x1, aP 26, aP 45, aI x4, aI x5, aI (x6 + 1), aU, aU]) ⟨Or.inr rfl, Or.inr rfl, Or.inr rfl, Or.inr rfl, Or.inr rfl, Or.inr rfl, Or.inr rfl, Or.inl rfl, Or.inl rfl, trivial⟩ w
    · refine g_aload_n dX8_middle_23 rfl ?_
      refine g_aload_n dX8_middle_24 rfl ?_
      refine g_getR dX8_middle_25 fl_X8_41 sh_40 (al_40 hn) (fun _ _ _ => rfl) rf_40_9 ?_
      refine g_iload dX8_middle_28 rfl ?_
      refine g_bipush dX8_middle_30 rfl ?_
      refine g_imul dX8_middle_32 ?_
      refine g_iload_n dX8_middle_33 rfl ?_
      refine g_iadd dX8_middle_34 ?_
      obtain ⟨o7, w⟩ := w
      refine g_iald dX8_middle_35 sh_49 (al_49 hn) (Nat.le_of_ble_eq_true rfl) o7 ?_
      obtain ⟨o8, w⟩ := w
      refine g_iald dX8_middle_36 sh_26 (al_26 hn) (Nat.le_of_ble_eq_true rfl) o8 ?_
      refine g_aload_n dX8_middle_37 rfl ?_
      refine g_iload dX8_middle_38 rfl ?_
      obtain ⟨o9, w⟩ := w
      refine g_iald dX8_middle_40 sh_45 (al_45 hn) (Nat.le_of_ble_eq_true rfl) o9 ?_
      refine g_isub dX8_middle_41 ?_
      refine g_istore (ls' := [aP 40, aI x1, aP 26, aP 45, aI x4, aI x5, aI x6, aI ((h1 26 (h1 49 ((x6 * 6) + x1))) - (h1 45 x6)), aU]) dX8_middle_42 (Nat.le_of_ble_eq_true rfl) rfl rfl ?_
      refine g_iload dX8_middle_44 rfl ?_
      refine g_istore (ls' := [aP 40, aI x1, aP 26, aP 45, aI x4, aI x5, aI x6, aI ((h1 26 (h1 49 ((x6 * 6) + x1))) - (h1 45 x6)), aI x5]) dX8_middle_46 (Nat.le_of_ble_eq_true rfl) rfl rfl ?_
      exact g_sub (ls' := [aP 40, aI x1, aP 26, aP 45, aI x4, aI x5, aI x6, aI ((h1 26 (h1 49 ((x6 * 6) + x1))) - (h1 45 x6)), aI x5]) ⟨Or.inr rfl, Or.inr rfl, Or.inr rfl, Or.inr rfl, Or.inr rfl, Or.inr rfl, Or.inr rfl, Or.inr rfl, Or.inr rfl, trivial⟩ w
theorem b_X8_middle_p_48 {l : Launch} {D : Nat} {ζ : ZP} {h : HI} {Q : Int → HI → Prop} {x1 x4 x5 x6 x7 x8 : Int} (hn : 144 ≤ ζ.2.2.2.2) (w : (rg x8) ∧ (if x8 ≤ 0 then ((0 ≤ x8 ∧ x8 < 60) ∧ G l (D + 1) 0 0 mX8_middle (zz ζ) 6 [aP 40, aI x1, aP 26, aP 45, aI x4, aI (x5 + 1), aI (x6 + 1), aU, aU] [] (hu h 50 x8 x7) (qI (zz ζ) Q)) else ((0 ≤ (x8 - 1) ∧ (x8 - 1) < 60) ∧ (rg (h 50 (x8 - 1))) ∧ (rg x7) ∧ (if (h 50 (x8 - 1)) ≤ x7 then ((0 ≤ x8 ∧ x8 < 60) ∧ G l (D + 1) 0 0 mX8_middle (zz ζ) 6 [aP 40, aI x1, aP 26, aP 45, aI x4, aI (x5 + 1), aI (x6 + 1), aU, aU] [] (hu h 50 x8 x7) (qI (zz ζ) Q)) else ((0 ≤ x8 ∧ x8 < 60) ∧ G l (D + 1) 0 0 mX8_middle (zz ζ) 48 [aP 40, aI x1, aP 26, aP 45, aI x4, aI x5, aI x6, aI x7, aI (x8 + (-1))] [] (hu h 50 x8 (h 50 (x8 - 1))) (qI (zz ζ) Q)))))) : G l (D + 1) 0 0 mX8_middle (zz ζ) 48 [aP 40, aI x1, aP 26, aP 45, aI x4, aI x5, aI x6, aI x7, aI x8] [] h (qI (zz ζ) Q) := by
  refine g_iload dX8_middle_48 rfl ?_
  obtain ⟨o1, w⟩ := w
  refine g_if_le (tgt := 89) dX8_middle_50 rfl o1 ?_
  refine ite_imp (fun w => ?_) (fun w => ?_) w
  · refine g_aload_n dX8_middle_89 rfl ?_
    refine g_getR dX8_middle_90 fl_X8_44 sh_40 (al_40 hn) (fun _ _ _ => rfl) rf_40_10 ?_
    refine g_iload dX8_middle_93 rfl ?_
    refine g_iload dX8_middle_95 rfl ?_
    obtain ⟨o2, w⟩ := w
    refine g_iast dX8_middle_97 sh_50 (al_50 hn) (Nat.le_of_ble_eq_true rfl) o2 ?_
    refine g_iinc (ls' := [aP 40, aI x1, aP 26, aP 45, aI x4, aI (x5 + 1), aI x6, aI x7, aI x8]) dX8_middle_98 rfl (Nat.le_of_ble_eq_true rfl) rfl rfl ?_
    refine g_iinc (ls' := [aP 40, aI x1, aP 26, aP 45, aI x4, aI (x5 + 1), aI (x6 + 1), aI x7, aI x8]) dX8_middle_101 rfl (Nat.le_of_ble_eq_true rfl) rfl rfl ?_
    refine g_goto (tgt := 6) dX8_middle_104 rfl ?_
    exact g_sub (ls' := [aP 40, aI x1, aP 26, aP 45, aI x4, aI (x5 + 1), aI (x6 + 1), aU, aU]) ⟨Or.inr rfl, Or.inr rfl, Or.inr rfl, Or.inr rfl, Or.inr rfl, Or.inr rfl, Or.inr rfl, Or.inl rfl, Or.inl rfl, trivial⟩ w
  · refine g_aload_n dX8_middle_53 rfl ?_
    refine g_getR dX8_middle_54 fl_X8_44 sh_40 (al_40 hn) (fun _ _ _ => rfl) rf_40_10 ?_
    refine g_iload dX8_middle_57 rfl ?_
    refine g_iconst dX8_middle_59 ?_
    refine g_isub dX8_middle_60 ?_
    obtain ⟨o3, w⟩ := w
    refine g_iald dX8_middle_61 sh_50 (al_50 hn) (Nat.le_of_ble_eq_true rfl) o3 ?_
    refine g_iload dX8_middle_62 rfl ?_
    obtain ⟨o4, w⟩ := w
    obtain ⟨o5, w⟩ := w
    refine g_cmp_le (tgt := 89) dX8_middle_64 rfl o4 o5 ?_
    refine ite_imp (fun w => ?_) (fun w => ?_) w
    · refine g_aload_n dX8_middle_89 rfl ?_
      refine g_getR dX8_middle_90 fl_X8_44 sh_40 (al_40 hn) (fun _ _ _ => rfl) rf_40_10 ?_
      refine g_iload dX8_middle_93 rfl ?_
      refine g_iload dX8_middle_95 rfl ?_
      obtain ⟨o6, w⟩ := w
      refine g_iast dX8_middle_97 sh_50 (al_50 hn) (Nat.le_of_ble_eq_true rfl) o6 ?_
      refine g_iinc (ls' := [aP 40, aI x1, aP 26, aP 45, aI x4, aI (x5 + 1), aI x6, aI x7, aI x8]) dX8_middle_98 rfl (Nat.le_of_ble_eq_true rfl) rfl rfl ?_
      refine g_iinc (ls' := [aP 40, aI x1, aP 26, aP 45, aI x4, aI (x5 + 1), aI (x6 + 1), aI x7, aI x8]) dX8_middle_101 rfl (Nat.le_of_ble_eq_true rfl) rfl rfl ?_
      refine g_goto (tgt := 6) dX8_middle_104 rfl ?_
      exact g_sub (ls' := [aP 40, aI x1, aP 26, aP 45, aI x4, aI (x5 + 1), aI (x6 + 1), aU, aU]) ⟨Or.inr rfl, Or.inr rfl, Or.inr rfl, Or.inr rfl, Or.inr rfl, Or.inr rfl, Or.inr rfl, Or.inl rfl, Or.inl rfl, trivial⟩ w
    · refine g_aload_n dX8_middle_67 rfl ?_
      refine g_getR dX8_middle_68 fl_X8_44 sh_40 (al_40 hn) (fun _ _ _ => rfl) rf_40_10 ?_
      refine g_iload dX8_middle_71 rfl ?_
      refine g_aload_n dX8_middle_73 rfl ?_
      refine g_getR dX8_middle_74 fl_X8_44 sh_40 (al_40 hn) (fun _ _ _ => rfl) rf_40_10 ?_
      refine g_iload dX8_middle_77 rfl ?_
      refine g_iconst dX8_middle_79 ?_
      refine g_isub dX8_middle_80 ?_
      refine g_iald dX8_middle_81 sh_50 (al_50 hn) (Nat.le_of_ble_eq_true rfl) o3 ?_
      obtain ⟨o7, w⟩ := w
      refine g_iast dX8_middle_82 sh_50 (al_50 hn) (Nat.le_of_ble_eq_true rfl) o7 ?_
      refine g_iinc (ls' := [aP 40, aI x1, aP 26, aP 45, aI x4, aI x5, aI x6, aI x7, aI (x8 + (-1))]) dX8_middle_83 rfl (Nat.le_of_ble_eq_true rfl) rfl rfl ?_
      refine g_goto (tgt := 48) dX8_middle_86 rfl ?_
      exact g_sub (ls' := [aP 40, aI x1, aP 26, aP 45, aI x4, aI x5, aI x6, aI x7, aI (x8 + (-1))]) ⟨Or.inr rfl, Or.inr rfl, Or.inr rfl, Or.inr rfl, Or.inr rfl, Or.inr rfl, Or.inr rfl, Or.inr rfl, Or.inr rfl, trivial⟩ w
theorem e_X8_middle_p {l : Launch} {D : Nat} {ζ : ZP} {h : HI} {Q : Int → HI → Prop} {x1 x4 : Int} (hn : 144 ≤ ζ.2.2.2.2) (w : G l (D + 1) 0 0 mX8_middle (zz ζ) 6 [aP 40, aI x1, aP 26, aP 45, aI x4, aI 0, aI 0, aU, aU] [] h (qI (zz ζ) Q)) : RtI l (D + 1) mX8_middle (zz ζ) [aP 40, aI x1, aP 26, aP 45, aI x4] h Q := by
  refine RtI.of 4 pn_X8 [aP 40, aI x1, aP 26, aP 45, aI x4, aU, aU, aU, aU] rfl rfl ?_
  refine g_iconst dX8_middle_0 ?_
  refine g_istore (ls' := [aP 40, aI x1, aP 26, aP 45, aI x4, aI 0, aU, aU, aU]) dX8_middle_1 (Nat.le_of_ble_eq_true rfl) rfl rfl ?_
  refine g_iconst dX8_middle_3 ?_
  refine g_istore (ls' := [aP 40, aI x1, aP 26, aP 45, aI x4, aI 0, aI 0, aU, aU]) dX8_middle_4 (Nat.le_of_ble_eq_true rfl) rfl rfl ?_
  exact g_sub (ls' := [aP 40, aI x1, aP 26, aP 45, aI x4, aI 0, aI 0, aU, aU]) ⟨Or.inr rfl, Or.inr rfl, Or.inr rfl, Or.inr rfl, Or.inr rfl, Or.inr rfl, Or.inr rfl, Or.inl rfl, Or.inl rfl, trivial⟩ w
theorem b_X8_weigh_2 {l : Launch} {D : Nat} {ζ : ZP} {h : HI} {Q : HI → Prop} {x2 : Int} (hn : 144 ≤ ζ.2.2.2.2) (w : (rg x2) ∧ (if 60 ≤ x2 then (G l (D + 1) 0 0 mX8_weigh (zz ζ) 37 [aP 40, aP 3, aI 0] [] h (qV (zz ζ) Q)) else ((0 ≤ x2 ∧ x2 < 60) ∧ G l (D + 1) 0 0 mX8_weigh (zz ζ) 2 [aP 40, aP 3, aI (x2 + 1)] [] (hu (hu (hu h 44 x2 0) 45 x2 0) 46 x2 0) (qV (zz ζ) Q)))) : G l (D + 1) 0 0 mX8_weigh (zz ζ) 2 [aP 40, aP 3, aI x2] [] h (qV (zz ζ) Q) := by
  refine g_iload_n dX8_weigh_2 rfl ?_
  refine g_bipush dX8_weigh_3 rfl ?_
  obtain ⟨o1, w⟩ := w
  refine g_cmp_ge (tgt := 35) dX8_weigh_5 rfl o1 (by decide) ?_
  refine ite_imp (fun w => ?_) (fun w => ?_) w
  · refine g_iconst dX8_weigh_35 ?_
    refine g_istore_n (ls' := [aP 40, aP 3, aI 0]) dX8_weigh_36 (Nat.le_of_ble_eq_true rfl) rfl rfl ?_
    exact g_sub (ls' := [aP 40, aP 3, aI 0]) ⟨Or.inr rfl, Or.inr rfl, Or.inr rfl, trivial⟩ w
  · refine g_aload_n dX8_weigh_8 rfl ?_
    refine g_getR dX8_weigh_9 fl_X8_26 sh_40 (al_40 hn) (fun _ _ _ => rfl) rf_40_4 ?_
    refine g_iload_n dX8_weigh_12 rfl ?_
    refine g_iconst dX8_weigh_13 ?_
    obtain ⟨o2, w⟩ := w
    refine g_iast dX8_weigh_14 sh_44 (al_44 hn) (Nat.le_of_ble_eq_true rfl) o2 ?_
    refine g_aload_n dX8_weigh_15 rfl ?_
    refine g_getR dX8_weigh_16 fl_X8_29 sh_40 (al_40 hn) (fun _ _ _ => rfl) rf_40_5 ?_
    refine g_iload_n dX8_weigh_19 rfl ?_
    refine g_iconst dX8_weigh_20 ?_
    refine g_iast dX8_weigh_21 sh_45 (al_45 hn) (Nat.le_of_ble_eq_true rfl) o2 ?_
    refine g_aload_n dX8_weigh_22 rfl ?_
    refine g_getR dX8_weigh_23 fl_X8_32 sh_40 (al_40 hn) (fun _ _ _ => rfl) rf_40_6 ?_
    refine g_iload_n dX8_weigh_26 rfl ?_
    refine g_iconst dX8_weigh_27 ?_
    refine g_iast dX8_weigh_28 sh_46 (al_46 hn) (Nat.le_of_ble_eq_true rfl) o2 ?_
    refine g_iinc (ls' := [aP 40, aP 3, aI (x2 + 1)]) dX8_weigh_29 rfl (Nat.le_of_ble_eq_true rfl) rfl rfl ?_
    refine g_goto (tgt := 2) dX8_weigh_32 rfl ?_
    exact g_sub (ls' := [aP 40, aP 3, aI (x2 + 1)]) ⟨Or.inr rfl, Or.inr rfl, Or.inr rfl, trivial⟩ w
theorem b_X8_weigh_37 {l : Launch} {D : Nat} {ζ : ZP} {h : HI} {Q : HI → Prop} {x2 : Int} (hn : 144 ≤ ζ.2.2.2.2) (w : (rg x2) ∧ (rg (h 3 5)) ∧ (if (h 3 5) ≤ x2 then (G l (D + 1) 0 0 mX8_weigh (zz ζ) 127 [aP 40, aP 3, aI 0] [] h (qV (zz ζ) Q)) else ((0 ≤ x2 ∧ x2 < 200) ∧ (0 ≤ (h 24 x2) ∧ (h 24 x2) < 6) ∧ (rg (h 41 (h 24 x2))) ∧ (if (h 41 (h 24 x2)) = 0 then (G l (D + 1) 0 0 mX8_weigh (zz ζ) 37 [aP 40, aP 3, aI (x2 + 1)] [] h (qV (zz ζ) Q)) else (RtV l D mX8_addTo (zz ζ) [aP 40, aI (h 23 x2), aI ((h 25 x2) - (h 42 (h 24 x2)))] h (fun h1 => (0 ≤ (h1 23 x2) ∧ (h1 23 x2) < 60) ∧ (0 ≤ (h1 24 x2) ∧ (h1 24 x2) < 6) ∧ G l (D + 1) 0 0 mX8_weigh (zz ζ) 37 [aP 40, aP 3, aI (x2 + 1)] [] (hu h1 45 (h1 23 x2) ((h1 45 (h1 23 x2)) + ((h1 26 x2) - (h1 43 (h1 24 x2))))) (qV (zz ζ) Q))))))) : G l (D + 1) 0 0 mX8_weigh (zz ζ) 37 [aP 40, aP 3, aI x2] [] h (qV (zz ζ) Q) := by
  refine g_iload_n dX8_weigh_37 rfl ?_
  refine g_aload_n dX8_weigh_38 rfl ?_
  refine g_getI (J := 5) dX8_weigh_39 fl_X8_95 sh_3 (al_3 hn) (fun _ _ _ => rfl) rfl ?_
  obtain ⟨o1, w⟩ := w
  obtain ⟨o2, w⟩ := w
  refine g_cmp_ge (tgt := 125) dX8_weigh_42 rfl o1 o2 ?_
  refine ite_imp (fun w => ?_) (fun w => ?_) w
  · refine g_iconst dX8_weigh_125 ?_
    refine g_istore_n (ls' := [aP 40, aP 3, aI 0]) dX8_weigh_126 (Nat.le_of_ble_eq_true rfl) rfl rfl ?_
    exact g_sub (ls' := [aP 40, aP 3, aI 0]) ⟨Or.inr rfl, Or.inr rfl, Or.inr rfl, trivial⟩ w
  · refine g_aload_n dX8_weigh_45 rfl ?_
    refine g_getR dX8_weigh_46 fl_X8_15 sh_40 (al_40 hn) (fun _ _ _ => rfl) rf_40_1 ?_
    refine g_aload_n dX8_weigh_49 rfl ?_
    refine g_getR dX8_weigh_50 fl_X8_101 sh_3 (al_3 hn) (fun _ _ _ => rfl) rf_3_7 ?_
    refine g_iload_n dX8_weigh_53 rfl ?_
    obtain ⟨o3, w⟩ := w
    refine g_iald dX8_weigh_54 sh_24 (al_24 hn) (Nat.le_of_ble_eq_true rfl) o3 ?_
    obtain ⟨o4, w⟩ := w
    refine g_zald dX8_weigh_55 sh_41 (al_41 hn) (Nat.le_of_ble_eq_true rfl) o4 ?_
    obtain ⟨o5, w⟩ := w
    refine g_if_eq (tgt := 119) dX8_weigh_56 rfl o5 ?_
    refine ite_imp (fun w => ?_) (fun w => ?_) w
    · refine g_iinc (ls' := [aP 40, aP 3, aI (x2 + 1)]) dX8_weigh_119 rfl (Nat.le_of_ble_eq_true rfl) rfl rfl ?_
      refine g_goto (tgt := 37) dX8_weigh_122 rfl ?_
      exact g_sub (ls' := [aP 40, aP 3, aI (x2 + 1)]) ⟨Or.inr rfl, Or.inr rfl, Or.inr rfl, trivial⟩ w
    · refine g_aload_n dX8_weigh_59 rfl ?_
      refine g_aload_n dX8_weigh_60 rfl ?_
      refine g_getR dX8_weigh_61 fl_X8_98 sh_3 (al_3 hn) (fun _ _ _ => rfl) rf_3_6 ?_
      refine g_iload_n dX8_weigh_64 rfl ?_
      refine g_iald dX8_weigh_65 sh_23 (al_23 hn) (Nat.le_of_ble_eq_true rfl) o3 ?_
      refine g_aload_n dX8_weigh_66 rfl ?_
      refine g_getR dX8_weigh_67 fl_X8_82 sh_3 (al_3 hn) (fun _ _ _ => rfl) rf_3_8 ?_
      refine g_iload_n dX8_weigh_70 rfl ?_
      refine g_iald dX8_weigh_71 sh_25 (al_25 hn) (Nat.le_of_ble_eq_true rfl) o3 ?_
      refine g_aload_n dX8_weigh_72 rfl ?_
      refine g_getR dX8_weigh_73 fl_X8_19 sh_40 (al_40 hn) (fun _ _ _ => rfl) rf_40_2 ?_
      refine g_aload_n dX8_weigh_76 rfl ?_
      refine g_getR dX8_weigh_77 fl_X8_101 sh_3 (al_3 hn) (fun _ _ _ => rfl) rf_3_7 ?_
      refine g_iload_n dX8_weigh_80 rfl ?_
      refine g_iald dX8_weigh_81 sh_24 (al_24 hn) (Nat.le_of_ble_eq_true rfl) o3 ?_
      refine g_iald dX8_weigh_82 sh_42 (al_42 hn) (Nat.le_of_ble_eq_true rfl) o4 ?_
      refine g_isub dX8_weigh_83 ?_
      refine g_callVV (n := 2) (As := [aI (h 23 x2), aI ((h 25 x2) - (h 42 (h 24 x2)))]) (st := []) dX8_weigh_84 ml_X8_108 sh_40 rfl (al_40 hn) rfl rfl (Nat.le_of_ble_eq_true rfl) (RtV.mono w (fun h1 w => ?_))
      refine g_aload_n dX8_weigh_87 rfl ?_
      refine g_getR dX8_weigh_88 fl_X8_29 sh_40 (al_40 hn) (fun _ _ _ => rfl) rf_40_5 ?_
      refine g_aload_n dX8_weigh_91 rfl ?_
      refine g_getR dX8_weigh_92 fl_X8_98 sh_3 (al_3 hn) (fun _ _ _ => rfl) rf_3_6 ?_
      refine g_iload_n dX8_weigh_95 rfl ?_
      refine g_iald dX8_weigh_96 sh_23 (al_23 hn) (Nat.le_of_ble_eq_true rfl) o3 ?_
      refine g_dup2 dX8_weigh_97 rfl rfl ?_
      obtain ⟨o6, w⟩ := w
      refine g_iald dX8_weigh_98 sh_45 (al_45 hn) (Nat.le_of_ble_eq_true rfl) o6 ?_
      refine g_aload_n dX8_weigh_99 rfl ?_
      refine g_getR dX8_weigh_100 fl_X8_92 sh_3 (al_3 hn) (fun _ _ _ => rfl) rf_3_9 ?_
      refine g_iload_n dX8_weigh_103 rfl ?_
      refine g_iald dX8_weigh_104 sh_26 (al_26 hn) (Nat.le_of_ble_eq_true rfl) o3 ?_
      refine g_aload_n dX8_weigh_105 rfl ?_
      refine g_getR dX8_weigh_106 fl_X8_23 sh_40 (al_40 hn) (fun _ _ _ => rfl) rf_40_3 ?_
      refine g_aload_n dX8_weigh_109 rfl ?_
      refine g_getR dX8_weigh_110 fl_X8_101 sh_3 (al_3 hn) (fun _ _ _ => rfl) rf_3_7 ?_
      refine g_iload_n dX8_weigh_113 rfl ?_
      refine g_iald dX8_weigh_114 sh_24 (al_24 hn) (Nat.le_of_ble_eq_true rfl) o3 ?_
      obtain ⟨o7, w⟩ := w
      refine g_iald dX8_weigh_115 sh_43 (al_43 hn) (Nat.le_of_ble_eq_true rfl) o7 ?_
      refine g_isub dX8_weigh_116 ?_
      refine g_iadd dX8_weigh_117 ?_
      refine g_iast dX8_weigh_118 sh_45 (al_45 hn) (Nat.le_of_ble_eq_true rfl) o6 ?_
      refine g_iinc (ls' := [aP 40, aP 3, aI (x2 + 1)]) dX8_weigh_119 rfl (Nat.le_of_ble_eq_true rfl) rfl rfl ?_
      refine g_goto (tgt := 37) dX8_weigh_122 rfl ?_
      exact g_sub (ls' := [aP 40, aP 3, aI (x2 + 1)]) ⟨Or.inr rfl, Or.inr rfl, Or.inr rfl, trivial⟩ w
theorem b_X8_weigh_127 {l : Launch} {D : Nat} {ζ : ZP} {h : HI} {Q : HI → Prop} {x2 : Int} (hn : 144 ≤ ζ.2.2.2.2) (w : (rg x2) ∧ (rg (h 3 3)) ∧ (if (h 3 3) ≤ x2 then (Q h) else (RtI l D mX8_has (zz ζ) [aP 40, aI x2] h (fun r1 h1 => (rg r1) ∧ (if r1 = 0 then (G l (D + 1) 0 0 mX8_weigh (zz ζ) 127 [aP 40, aP 3, aI (x2 + 1)] [] h1 (qV (zz ζ) Q)) else ((0 ≤ x2 ∧ x2 < 60) ∧ RtI l D mX11_cut (zz ζ) [aI (h1 44 x2), aI (h1 46 x2)] h1 (fun r2 h2 => (rg r2) ∧ RtI l D mX11_cut (zz ζ) [aI (h2 45 x2), aI (h2 46 x2)] (hu h2 44 x2 (max 1 r2)) (fun r3 h3 => (rg r3) ∧ G l (D + 1) 0 0 mX8_weigh (zz ζ) 127 [aP 40, aP 3, aI (x2 + 1)] [] (hu h3 45 x2 (max 1 r3)) (qV (zz ζ) Q))))))))) : G l (D + 1) 0 0 mX8_weigh (zz ζ) 127 [aP 40, aP 3, aI x2] [] h (qV (zz ζ) Q) := by
  refine g_iload_n dX8_weigh_127 rfl ?_
  refine g_aload_n dX8_weigh_128 rfl ?_
  refine g_getI (J := 3) dX8_weigh_129 fl_X8_85 sh_3 (al_3 hn) (fun _ _ _ => rfl) rfl ?_
  obtain ⟨o1, w⟩ := w
  obtain ⟨o2, w⟩ := w
  refine g_cmp_ge (tgt := 199) dX8_weigh_132 rfl o1 o2 ?_
  refine ite_imp (fun w => ?_) (fun w => ?_) w
  · exact g_retV dX8_weigh_199 rfl w
  · refine g_aload_n dX8_weigh_135 rfl ?_
    refine g_iload_n dX8_weigh_136 rfl ?_
    refine g_callVI (n := 1) (As := [aI x2]) (st := []) dX8_weigh_137 ml_X8_52 sh_40 rfl (al_40 hn) rfl rfl (Nat.le_of_ble_eq_true rfl) (RtI.mono w (fun r1 h1 w => ?_))
    obtain ⟨o3, w⟩ := w
    refine g_if_eq (tgt := 193) dX8_weigh_140 rfl o3 ?_
    refine ite_imp (fun w => ?_) (fun w => ?_) w
    · refine g_iinc (ls' := [aP 40, aP 3, aI (x2 + 1)]) dX8_weigh_193 rfl (Nat.le_of_ble_eq_true rfl) rfl rfl ?_
      refine g_goto (tgt := 127) dX8_weigh_196 rfl ?_
      exact g_sub (ls' := [aP 40, aP 3, aI (x2 + 1)]) ⟨Or.inr rfl, Or.inr rfl, Or.inr rfl, trivial⟩ w
    · refine g_aload_n dX8_weigh_143 rfl ?_
      refine g_getR dX8_weigh_144 fl_X8_26 sh_40 (al_40 hn) (fun _ _ _ => rfl) rf_40_4 ?_
      refine g_iload_n dX8_weigh_147 rfl ?_
      refine g_iconst dX8_weigh_148 ?_
      refine g_aload_n dX8_weigh_149 rfl ?_
      refine g_getR dX8_weigh_150 fl_X8_26 sh_40 (al_40 hn) (fun _ _ _ => rfl) rf_40_4 ?_
      refine g_iload_n dX8_weigh_153 rfl ?_
      obtain ⟨o4, w⟩ := w
      refine g_iald dX8_weigh_154 sh_44 (al_44 hn) (Nat.le_of_ble_eq_true rfl) o4 ?_
      refine g_aload_n dX8_weigh_155 rfl ?_
      refine g_getR dX8_weigh_156 fl_X8_32 sh_40 (al_40 hn) (fun _ _ _ => rfl) rf_40_6 ?_
      refine g_iload_n dX8_weigh_159 rfl ?_
      refine g_iald dX8_weigh_160 sh_46 (al_46 hn) (Nat.le_of_ble_eq_true rfl) o4 ?_
      refine g_callSNI (n := 2) (As := [aI (h1 44 x2), aI (h1 46 x2)]) (st := [aI 1, aI x2, aP 44]) dX8_weigh_161 ml_X8_48 rfl rfl (Nat.le_of_ble_eq_true rfl) (RtI.mono w (fun r2 h2 w => ?_))
      obtain ⟨o5, w⟩ := w
      refine g_max dX8_weigh_164 mm_X8_112 (Nat.le_of_ble_eq_true rfl) (by decide) o5 ?_
      refine g_iast dX8_weigh_167 sh_44 (al_44 hn) (Nat.le_of_ble_eq_true rfl) o4 ?_
      refine g_aload_n dX8_weigh_168 rfl ?_
      refine g_getR dX8_weigh_169 fl_X8_29 sh_40 (al_40 hn) (fun _ _ _ => rfl) rf_40_5 ?_
      refine g_iload_n dX8_weigh_172 rfl ?_
      refine g_iconst dX8_weigh_173 ?_
      refine g_aload_n dX8_weigh_174 rfl ?_
      refine g_getR dX8_weigh_175 fl_X8_29 sh_40 (al_40 hn) (fun _ _ _ => rfl) rf_40_5 ?_
      refine g_iload_n dX8_weigh_178 rfl ?_
      refine g_iald dX8_weigh_179 sh_45 (al_45 hn) (Nat.le_of_ble_eq_true rfl) o4 ?_
      refine g_aload_n dX8_weigh_180 rfl ?_
      refine g_getR dX8_weigh_181 fl_X8_32 sh_40 (al_40 hn) (fun _ _ _ => rfl) rf_40_6 ?_
      refine g_iload_n dX8_weigh_184 rfl ?_
      refine g_iald dX8_weigh_185 sh_46 (al_46 hn) (Nat.le_of_ble_eq_true rfl) o4 ?_
      refine g_callSNI (n := 2) (As := [aI (h2 45 x2), aI (h2 46 x2)]) (st := [aI 1, aI x2, aP 45]) dX8_weigh_186 ml_X8_48 rfl rfl (Nat.le_of_ble_eq_true rfl) (RtI.mono w (fun r3 h3 w => ?_))
      obtain ⟨o6, w⟩ := w
      refine g_max dX8_weigh_189 mm_X8_112 (Nat.le_of_ble_eq_true rfl) (by decide) o6 ?_
      refine g_iast dX8_weigh_192 sh_45 (al_45 hn) (Nat.le_of_ble_eq_true rfl) o4 ?_
      refine g_iinc (ls' := [aP 40, aP 3, aI (x2 + 1)]) dX8_weigh_193 rfl (Nat.le_of_ble_eq_true rfl) rfl rfl ?_
      refine g_goto (tgt := 127) dX8_weigh_196 rfl ?_
      exact g_sub (ls' := [aP 40, aP 3, aI (x2 + 1)]) ⟨Or.inr rfl, Or.inr rfl, Or.inr rfl, trivial⟩ w
theorem e_X8_weigh {l : Launch} {D : Nat} {ζ : ZP} {h : HI} {Q : HI → Prop} (hn : 144 ≤ ζ.2.2.2.2) (w : G l (D + 1) 0 0 mX8_weigh (zz ζ) 2 [aP 40, aP 3, aI 0] [] h (qV (zz ζ) Q)) : RtV l (D + 1) mX8_weigh (zz ζ) [aP 40, aP 3] h Q := by
  refine RtV.of 1 pn_X8 [aP 40, aP 3, aU] rfl rfl ?_
  refine g_iconst dX8_weigh_0 ?_
  refine g_istore_n (ls' := [aP 40, aP 3, aI 0]) dX8_weigh_1 (Nat.le_of_ble_eq_true rfl) rfl rfl ?_
  exact g_sub (ls' := [aP 40, aP 3, aI 0]) ⟨Or.inr rfl, Or.inr rfl, Or.inr rfl, trivial⟩ w
theorem b_X8_addTo_27 {l : Launch} {D : Nat} {ζ : ZP} {h : HI} {Q : HI → Prop} {s0 s1 x1 x2 : Int} (hn : 144 ≤ ζ.2.2.2.2) (w : (0 ≤ s1 ∧ s1 < 60) ∧ RtI l D mX8_has (zz ζ) [aP 40, aI x1] (hu h 47 s1 s0) (fun r1 h1 => (rg r1) ∧ (if r1 = 0 then ((0 ≤ x1 ∧ x1 < 60) ∧ Q (hu (hu (hu h1 48 x1 x2) 44 x1 ((h1 44 x1) + x2)) 46 x1 ((h1 46 x1) + 1))) else ((0 ≤ x1 ∧ x1 < 60) ∧ (rg (h1 48 x1)) ∧ (rg x2) ∧ Q (hu (hu (hu h1 48 x1 (max (h1 48 x1) x2)) 44 x1 ((h1 44 x1) + x2)) 46 x1 ((h1 46 x1) + 1)))))) : G l (D + 1) 0 0 mX8_addTo (zz ζ) 27 [aP 40, aI x1, aI x2] [aI s0, aI s1, aP 47] h (qV (zz ζ) Q) := by
  obtain ⟨o1, w⟩ := w
  refine g_iast dX8_addTo_27 sh_47 (al_47 hn) (Nat.le_of_ble_eq_true rfl) o1 ?_
  refine g_aload_n dX8_addTo_28 rfl ?_
  refine g_getR dX8_addTo_29 fl_X8_38 sh_40 (al_40 hn) (fun _ _ _ => rfl) rf_40_8 ?_
  refine g_iload_n dX8_addTo_32 rfl ?_
  refine g_aload_n dX8_addTo_33 rfl ?_
  refine g_iload_n dX8_addTo_34 rfl ?_
  refine g_callVI (n := 1) (As := [aI x1]) (st := [aI x1, aP 48]) dX8_addTo_35 ml_X8_52 sh_40 rfl (al_40 hn) rfl rfl (Nat.le_of_ble_eq_true rfl) (RtI.mono w (fun r1 h1 w => ?_))
  obtain ⟨o2, w⟩ := w
  refine g_if_eq (tgt := 54) dX8_addTo_38 rfl o2 ?_
  refine ite_imp (fun w => ?_) (fun w => ?_) w
  · refine g_iload_n dX8_addTo_54 rfl ?_
    obtain ⟨o3, w⟩ := w
    refine g_iast dX8_addTo_55 sh_48 (al_48 hn) (Nat.le_of_ble_eq_true rfl) o3 ?_
    refine g_aload_n dX8_addTo_56 rfl ?_
    refine g_getR dX8_addTo_57 fl_X8_26 sh_40 (al_40 hn) (fun _ _ _ => rfl) rf_40_4 ?_
    refine g_iload_n dX8_addTo_60 rfl ?_
    refine g_dup2 dX8_addTo_61 rfl rfl ?_
    refine g_iald dX8_addTo_62 sh_44 (al_44 hn) (Nat.le_of_ble_eq_true rfl) o3 ?_
    refine g_iload_n dX8_addTo_63 rfl ?_
    refine g_iadd dX8_addTo_64 ?_
    refine g_iast dX8_addTo_65 sh_44 (al_44 hn) (Nat.le_of_ble_eq_true rfl) o3 ?_
    refine g_aload_n dX8_addTo_66 rfl ?_
    refine g_getR dX8_addTo_67 fl_X8_32 sh_40 (al_40 hn) (fun _ _ _ => rfl) rf_40_6 ?_
    refine g_iload_n dX8_addTo_70 rfl ?_
    refine g_dup2 dX8_addTo_71 rfl rfl ?_
    refine g_iald dX8_addTo_72 sh_46 (al_46 hn) (Nat.le_of_ble_eq_true rfl) o3 ?_
    refine g_iconst dX8_addTo_73 ?_
    refine g_iadd dX8_addTo_74 ?_
    refine g_iast dX8_addTo_75 sh_46 (al_46 hn) (Nat.le_of_ble_eq_true rfl) o3 ?_
    exact g_retV dX8_addTo_76 rfl w
  · refine g_aload_n dX8_addTo_41 rfl ?_
    refine g_getR dX8_addTo_42 fl_X8_38 sh_40 (al_40 hn) (fun _ _ _ => rfl) rf_40_8 ?_
    refine g_iload_n dX8_addTo_45 rfl ?_
    obtain ⟨o4, w⟩ := w
    refine g_iald dX8_addTo_46 sh_48 (al_48 hn) (Nat.le_of_ble_eq_true rfl) o4 ?_
    refine g_iload_n dX8_addTo_47 rfl ?_
    obtain ⟨o5, w⟩ := w
    obtain ⟨o6, w⟩ := w
    refine g_max dX8_addTo_48 mm_X8_112 (Nat.le_of_ble_eq_true rfl) o5 o6 ?_
    refine g_goto (tgt := 55) dX8_addTo_51 rfl ?_
    refine g_iast dX8_addTo_55 sh_48 (al_48 hn) (Nat.le_of_ble_eq_true rfl) o4 ?_
    refine g_aload_n dX8_addTo_56 rfl ?_
    refine g_getR dX8_addTo_57 fl_X8_26 sh_40 (al_40 hn) (fun _ _ _ => rfl) rf_40_4 ?_
    refine g_iload_n dX8_addTo_60 rfl ?_
    refine g_dup2 dX8_addTo_61 rfl rfl ?_
    refine g_iald dX8_addTo_62 sh_44 (al_44 hn) (Nat.le_of_ble_eq_true rfl) o4 ?_
    refine g_iload_n dX8_addTo_63 rfl ?_
    refine g_iadd dX8_addTo_64 ?_
    refine g_iast dX8_addTo_65 sh_44 (al_44 hn) (Nat.le_of_ble_eq_true rfl) o4 ?_
    refine g_aload_n dX8_addTo_66 rfl ?_
    refine g_getR dX8_addTo_67 fl_X8_32 sh_40 (al_40 hn) (fun _ _ _ => rfl) rf_40_6 ?_
    refine g_iload_n dX8_addTo_70 rfl ?_
    refine g_dup2 dX8_addTo_71 rfl rfl ?_
    refine g_iald dX8_addTo_72 sh_46 (al_46 hn) (Nat.le_of_ble_eq_true rfl) o4 ?_
    refine g_iconst dX8_addTo_73 ?_
    refine g_iadd dX8_addTo_74 ?_
    refine g_iast dX8_addTo_75 sh_46 (al_46 hn) (Nat.le_of_ble_eq_true rfl) o4 ?_
    exact g_retV dX8_addTo_76 rfl w
theorem e_X8_addTo {l : Launch} {D : Nat} {ζ : ZP} {h : HI} {Q : HI → Prop} {x1 x2 : Int} (hn : 144 ≤ ζ.2.2.2.2) (w : RtI l D mX8_has (zz ζ) [aP 40, aI x1] h (fun r1 h1 => (rg r1) ∧ (if r1 = 0 then (G l (D + 1) 0 0 mX8_addTo (zz ζ) 27 [aP 40, aI x1, aI x2] [aI x2, aI x1, aP 47] h1 (qV (zz ζ) Q)) else ((0 ≤ x1 ∧ x1 < 60) ∧ (rg (h1 47 x1)) ∧ (rg x2) ∧ G l (D + 1) 0 0 mX8_addTo (zz ζ) 27 [aP 40, aI x1, aI x2] [aI (min (h1 47 x1) x2), aI x1, aP 47] h1 (qV (zz ζ) Q))))) : RtV l (D + 1) mX8_addTo (zz ζ) [aP 40, aI x1, aI x2] h Q := by
  refine RtV.of 0 pn_X8 [aP 40, aI x1, aI x2] rfl rfl ?_
  refine g_aload_n dX8_addTo_0 rfl ?_
  refine g_getR dX8_addTo_1 fl_X8_35 sh_40 (al_40 hn) (fun _ _ _ => rfl) rf_40_7 ?_
  refine g_iload_n dX8_addTo_4 rfl ?_
  refine g_aload_n dX8_addTo_5 rfl ?_
  refine g_iload_n dX8_addTo_6 rfl ?_
  refine g_callVI (n := 1) (As := [aI x1]) (st := [aI x1, aP 47]) dX8_addTo_7 ml_X8_52 sh_40 rfl (al_40 hn) rfl rfl (Nat.le_of_ble_eq_true rfl) (RtI.mono w (fun r1 h1 w => ?_))
  obtain ⟨o1, w⟩ := w
  refine g_if_eq (tgt := 26) dX8_addTo_10 rfl o1 ?_
  refine ite_imp (fun w => ?_) (fun w => ?_) w
  · refine g_iload_n dX8_addTo_26 rfl ?_
    exact g_sub (ls' := [aP 40, aI x1, aI x2]) ⟨Or.inr rfl, Or.inr rfl, Or.inr rfl, trivial⟩ w
  · refine g_aload_n dX8_addTo_13 rfl ?_
    refine g_getR dX8_addTo_14 fl_X8_35 sh_40 (al_40 hn) (fun _ _ _ => rfl) rf_40_7 ?_
    refine g_iload_n dX8_addTo_17 rfl ?_
    obtain ⟨o2, w⟩ := w
    refine g_iald dX8_addTo_18 sh_47 (al_47 hn) (Nat.le_of_ble_eq_true rfl) o2 ?_
    refine g_iload_n dX8_addTo_19 rfl ?_
    obtain ⟨o3, w⟩ := w
    obtain ⟨o4, w⟩ := w
    refine g_min dX8_addTo_20 mm_X8_117 (Nat.le_of_ble_eq_true rfl) o3 o4 ?_
    refine g_goto (tgt := 27) dX8_addTo_23 rfl ?_
    exact g_sub (ls' := [aP 40, aI x1, aI x2]) ⟨Or.inr rfl, Or.inr rfl, Or.inr rfl, trivial⟩ w
