theorem b_X2_start_36 {l : Launch} {D : Nat} {ζ : ZP} {h : HI} {Q : HI → Prop} {x3 : Int} (hn : 144 ≤ ζ.2.2.2.2) (w : (rg x3) ∧ (rg (h 52 5)) ∧ (if (h 52 5) ≤ x3 then (Q h) else ((0 ≤ x3 ∧ x3 < 12) ∧ G l (D + 1) 0 0 mX2_start (zz ζ) 36 [aP 52, aU, aU, aI (x3 + 1)] [] (hu (hu (hu h 57 x3 0) 58 x3 0) 59 x3 0) (qV (zz ζ) Q)))) : G l (D + 1) 0 0 mX2_start (zz ζ) 36 [aP 52, aU, aU, aI x3] [] h (qV (zz ζ) Q) := by
  refine g_iload_n dX2_start_36 rfl ?_
  refine g_aload_n dX2_start_37 rfl ?_
  refine g_getI (J := 5) dX2_start_38 fl_X2_52 sh_52 (al_52 hn) (fun _ _ _ => rfl) rfl ?_
  obtain ⟨o1, w⟩ := w
  obtain ⟨o2, w⟩ := w
  refine g_cmp_ge (tgt := 71) dX2_start_41 rfl o1 o2 ?_
  refine ite_imp (fun w => ?_) (fun w => ?_) w
  · exact g_retV dX2_start_71 rfl w
  · refine g_aload_n dX2_start_44 rfl ?_
    refine g_getR dX2_start_45 fl_X2_24 sh_52 (al_52 hn) (fun _ _ _ => rfl) rf_52_10 ?_
    refine g_iload_n dX2_start_48 rfl ?_
    refine g_iconst dX2_start_49 ?_
    obtain ⟨o3, w⟩ := w
    refine g_iast dX2_start_50 sh_57 (al_57 hn) (Nat.le_of_ble_eq_true rfl) o3 ?_
    refine g_aload_n dX2_start_51 rfl ?_
    refine g_getR dX2_start_52 fl_X2_27 sh_52 (al_52 hn) (fun _ _ _ => rfl) rf_52_11 ?_
    refine g_iload_n dX2_start_55 rfl ?_
    refine g_iconst dX2_start_56 ?_
    refine g_iast dX2_start_57 sh_58 (al_58 hn) (Nat.le_of_ble_eq_true rfl) o3 ?_
    refine g_aload_n dX2_start_58 rfl ?_
    refine g_getR dX2_start_59 fl_X2_30 sh_52 (al_52 hn) (fun _ _ _ => rfl) rf_52_12 ?_
    refine g_iload_n dX2_start_62 rfl ?_
    refine g_iconst dX2_start_63 ?_
    refine g_iast dX2_start_64 sh_59 (al_59 hn) (Nat.le_of_ble_eq_true rfl) o3 ?_
    refine g_iinc (ls' := [aP 52, aU, aU, aI (x3 + 1)]) dX2_start_65 rfl (Nat.le_of_ble_eq_true rfl) rfl rfl ?_
    refine g_goto (tgt := 36) dX2_start_68 rfl ?_
    exact g_sub (ls' := [aP 52, aU, aU, aI (x3 + 1)]) ⟨Or.inr rfl, Or.inl rfl, Or.inl rfl, Or.inr rfl, trivial⟩ w
theorem e_X2_start {l : Launch} {D : Nat} {ζ : ZP} {h : HI} {Q : HI → Prop} {x1 x2 : Int} (hn : 144 ≤ ζ.2.2.2.2) (w : RtI l D mX11_cut (zz ζ) [aI x1, aI x2] (hu (hu h 52 0 x1) 52 5 x2) (fun r1 h1 => G l (D + 1) 0 0 mX2_start (zz ζ) 36 [aP 52, aU, aU, aI 0] [] (hu (hu (hu (hu h1 52 6 r1) 52 2 (-1)) 52 3 0) 52 4 0) (qV (zz ζ) Q))) : RtV l (D + 1) mX2_start (zz ζ) [aP 52, aI x1, aI x2] h Q := by
  refine RtV.of 1 pn_X2 [aP 52, aI x1, aI x2, aU] rfl rfl ?_
  refine g_aload_n dX2_start_0 rfl ?_
  refine g_iload_n dX2_start_1 rfl ?_
  refine g_putI (J := 0) dX2_start_2 fl_X2_48 sh_52 (al_52 hn) rfl rfl ?_
  refine g_aload_n dX2_start_5 rfl ?_
  refine g_iload_n dX2_start_6 rfl ?_
  refine g_putI (J := 5) dX2_start_7 fl_X2_52 sh_52 (al_52 hn) rfl rfl ?_
  refine g_aload_n dX2_start_10 rfl ?_
  refine g_iload_n dX2_start_11 rfl ?_
  refine g_iload_n dX2_start_12 rfl ?_
  refine g_callSNI (n := 2) (As := [aI x1, aI x2]) (st := [aP 52]) dX2_start_13 ml_X2_55 rfl rfl (Nat.le_of_ble_eq_true rfl) (RtI.mono w (fun r1 h1 w => ?_))
  refine g_putI (J := 6) dX2_start_16 fl_X2_59 sh_52 (al_52 hn) rfl rfl ?_
  refine g_aload_n dX2_start_19 rfl ?_
  refine g_iconst dX2_start_20 ?_
  refine g_putI (J := 2) dX2_start_21 fl_X2_62 sh_52 (al_52 hn) rfl rfl ?_
  refine g_aload_n dX2_start_24 rfl ?_
  refine g_iconst dX2_start_25 ?_
  refine g_putI (J := 3) dX2_start_26 fl_X2_65 sh_52 (al_52 hn) rfl rfl ?_
  refine g_aload_n dX2_start_29 rfl ?_
  refine g_iconst dX2_start_30 ?_
  refine g_putI (J := 4) dX2_start_31 fl_X2_68 sh_52 (al_52 hn) rfl rfl ?_
  refine g_iconst dX2_start_34 ?_
  refine g_istore_n (ls' := [aP 52, aI x1, aI x2, aI 0]) dX2_start_35 (Nat.le_of_ble_eq_true rfl) rfl rfl ?_
  exact g_sub (ls' := [aP 52, aU, aU, aI 0]) ⟨Or.inr rfl, Or.inl rfl, Or.inl rfl, Or.inr rfl, trivial⟩ w
theorem e_X2_tell {l : Launch} {D : Nat} {ζ : ZP} {h : HI} {Q : HI → Prop} {x1 x2 x3 : Int} (hn : 144 ≤ ζ.2.2.2.2) (w : (0 ≤ x1 ∧ x1 < 12) ∧ Q (hu (hu h 54 x1 x2) 55 x1 x3)) : RtV l (D + 1) mX2_tell (zz ζ) [aP 52, aI x1, aI x2, aI x3] h Q := by
  refine RtV.of 0 pn_X2 [aP 52, aI x1, aI x2, aI x3] rfl rfl ?_
  refine g_aload_n dX2_tell_0 rfl ?_
  refine g_getR dX2_tell_1 fl_X2_15 sh_52 (al_52 hn) (fun _ _ _ => rfl) rf_52_7 ?_
  refine g_iload_n dX2_tell_4 rfl ?_
  refine g_iload_n dX2_tell_5 rfl ?_
  obtain ⟨o1, w⟩ := w
  refine g_iast dX2_tell_6 sh_54 (al_54 hn) (Nat.le_of_ble_eq_true rfl) o1 ?_
  refine g_aload_n dX2_tell_7 rfl ?_
  refine g_getR dX2_tell_8 fl_X2_18 sh_52 (al_52 hn) (fun _ _ _ => rfl) rf_52_8 ?_
  refine g_iload_n dX2_tell_11 rfl ?_
  refine g_iload_n dX2_tell_12 rfl ?_
  refine g_iast dX2_tell_13 sh_55 (al_55 hn) (Nat.le_of_ble_eq_true rfl) o1 ?_
  exact g_retV dX2_tell_14 rfl w
theorem e_X2_find {l : Launch} {D : Nat} {ζ : ZP} {h : HI} {Q : HI → Prop} (hn : 144 ≤ ζ.2.2.2.2) (w : RtV l D mX2_addUp (zz ζ) [aP 52, aP 54, aP 60, aP 61] h (fun h1 => RtV l D mX2_addUp (zz ζ) [aP 52, aP 55, aP 62, aP 63] h1 (fun h2 => RtV l D mX2_place (zz ζ) [aP 52, aI 0, aI 0] h2 (fun h3 => Q h3)))) : RtV l (D + 1) mX2_find (zz ζ) [aP 52] h Q := by
  refine RtV.of 0 pn_X2 [aP 52] rfl rfl ?_
  refine g_aload_n dX2_find_0 rfl ?_
  refine g_aload_n dX2_find_1 rfl ?_
  refine g_getR dX2_find_2 fl_X2_15 sh_52 (al_52 hn) (fun _ _ _ => rfl) rf_52_7 ?_
  refine g_aload_n dX2_find_5 rfl ?_
  refine g_getR dX2_find_6 fl_X2_33 sh_52 (al_52 hn) (fun _ _ _ => rfl) rf_52_13 ?_
  refine g_aload_n dX2_find_9 rfl ?_
  refine g_getR dX2_find_10 fl_X2_36 sh_52 (al_52 hn) (fun _ _ _ => rfl) rf_52_14 ?_
  refine g_callVV (n := 3) (As := [aP 54, aP 60, aP 61]) (st := []) dX2_find_13 ml_X2_71 sh_52 rfl (al_52 hn) rfl rfl (Nat.le_of_ble_eq_true rfl) (RtV.mono w (fun h1 w => ?_))
  refine g_aload_n dX2_find_16 rfl ?_
  refine g_aload_n dX2_find_17 rfl ?_
  refine g_getR dX2_find_18 fl_X2_18 sh_52 (al_52 hn) (fun _ _ _ => rfl) rf_52_8 ?_
  refine g_aload_n dX2_find_21 rfl ?_
  refine g_getR dX2_find_22 fl_X2_39 sh_52 (al_52 hn) (fun _ _ _ => rfl) rf_52_15 ?_
  refine g_aload_n dX2_find_25 rfl ?_
  refine g_getR dX2_find_26 fl_X2_42 sh_52 (al_52 hn) (fun _ _ _ => rfl) rf_52_16 ?_
  refine g_callVV (n := 3) (As := [aP 55, aP 62, aP 63]) (st := []) dX2_find_29 ml_X2_71 sh_52 rfl (al_52 hn) rfl rfl (Nat.le_of_ble_eq_true rfl) (RtV.mono w (fun h2 w => ?_))
  refine g_aload_n dX2_find_32 rfl ?_
  refine g_iconst dX2_find_33 ?_
  refine g_iconst dX2_find_34 ?_
  refine g_callVV (n := 2) (As := [aI 0, aI 0]) (st := []) dX2_find_35 ml_X2_75 sh_52 rfl (al_52 hn) rfl rfl (Nat.le_of_ble_eq_true rfl) (RtV.mono w (fun h3 w => ?_))
  exact g_retV dX2_find_38 rfl w
theorem b_X2_addUp_h_8 {l : Launch} {D : Nat} {ζ : ZP} {h : HI} {Q : HI → Prop} {x4 : Int} (hn : 144 ≤ ζ.2.2.2.2) (w : (rg x4) ∧ (if x4 < 0 then (Q h) else (G l (D + 1) 0 0 mX2_addUp (zz ζ) 28 [aP 52, aP 54, aP 60, aP 61, aI x4, aI ((h 52 0) - x4), aI (((h 52 0) - x4) - 1), aU, aU] [] h (qV (zz ζ) Q)))) : G l (D + 1) 0 0 mX2_addUp (zz ζ) 8 [aP 52, aP 54, aP 60, aP 61, aI x4, aU, aU, aU, aU] [] h (qV (zz ζ) Q) := by
  refine g_iload dX2_addUp_8 rfl ?_
  obtain ⟨o1, w⟩ := w
  refine g_if_lt (tgt := 164) dX2_addUp_10 rfl o1 ?_
  refine ite_imp (fun w => ?_) (fun w => ?_) w
  · exact g_retV dX2_addUp_164 rfl w
  · refine g_aload_n dX2_addUp_13 rfl ?_
    refine g_getI (J := 0) dX2_addUp_14 fl_X2_48 sh_52 (al_52 hn) (fun _ _ _ => rfl) rfl ?_
    refine g_iload dX2_addUp_17 rfl ?_
    refine g_isub dX2_addUp_19 ?_
    refine g_istore (ls' := [aP 52, aP 54, aP 60, aP 61, aI x4, aI ((h 52 0) - x4), aU, aU, aU]) dX2_addUp_20 (Nat.le_of_ble_eq_true rfl) rfl rfl ?_
    refine g_iload dX2_addUp_22 rfl ?_
    refine g_iconst dX2_addUp_24 ?_
    refine g_isub dX2_addUp_25 ?_
    refine g_istore (ls' := [aP 52, aP 54, aP 60, aP 61, aI x4, aI ((h 52 0) - x4), aI (((h 52 0) - x4) - 1), aU, aU]) dX2_addUp_26 (Nat.le_of_ble_eq_true rfl) rfl rfl ?_
    exact g_sub (ls' := [aP 52, aP 54, aP 60, aP 61, aI x4, aI ((h 52 0) - x4), aI (((h 52 0) - x4) - 1), aU, aU]) ⟨Or.inr rfl, Or.inr rfl, Or.inr rfl, Or.inr rfl, Or.inr rfl, Or.inr rfl, Or.inr rfl, Or.inl rfl, Or.inl rfl, trivial⟩ w
theorem b_X2_addUp_h_28 {l : Launch} {D : Nat} {ζ : ZP} {h : HI} {Q : HI → Prop} {x4 x5 x6 : Int} (hn : 144 ≤ ζ.2.2.2.2) (w : (rg x6) ∧ (if x6 ≤ 0 then ((0 ≤ x4 ∧ x4 < 12) ∧ (0 ≤ x6 ∧ x6 < 12) ∧ G l (D + 1) 0 0 mX2_addUp (zz ζ) 92 [aP 52, aP 54, aP 60, aP 61, aI x4, aI x5, aU, aI (x4 * 13), aI 1] [] (hu h 64 x6 (h 54 x4)) (qV (zz ζ) Q)) else ((0 ≤ (x6 - 1) ∧ (x6 - 1) < 12) ∧ (0 ≤ x4 ∧ x4 < 12) ∧ (rg (h 64 (x6 - 1))) ∧ (rg (h 54 x4)) ∧ (if (h 64 (x6 - 1)) ≤ (h 54 x4) then ((0 ≤ x6 ∧ x6 < 12) ∧ G l (D + 1) 0 0 mX2_addUp (zz ζ) 92 [aP 52, aP 54, aP 60, aP 61, aI x4, aI x5, aU, aI (x4 * 13), aI 1] [] (hu h 64 x6 (h 54 x4)) (qV (zz ζ) Q)) else ((0 ≤ x6 ∧ x6 < 12) ∧ G l (D + 1) 0 0 mX2_addUp (zz ζ) 28 [aP 52, aP 54, aP 60, aP 61, aI x4, aI x5, aI (x6 + (-1)), aU, aU] [] (hu h 64 x6 (h 64 (x6 - 1))) (qV (zz ζ) Q)))))) : G l (D + 1) 0 0 mX2_addUp (zz ζ) 28 [aP 52, aP 54, aP 60, aP 61, aI x4, aI x5, aI x6, aU, aU] [] h (qV (zz ζ) Q) := by
  refine g_iload dX2_addUp_28 rfl ?_
  obtain ⟨o1, w⟩ := w
  refine g_if_le (tgt := 71) dX2_addUp_30 rfl o1 ?_
  refine ite_imp (fun w => ?_) (fun w => ?_) w
  · refine g_aload_n dX2_addUp_71 rfl ?_
    refine g_getR dX2_addUp_72 fl_X2_45 sh_52 (al_52 hn) (fun _ _ _ => rfl) rf_52_17 ?_
    refine g_iload dX2_addUp_75 rfl ?_
    refine g_aload_n dX2_addUp_77 rfl ?_
    refine g_iload dX2_addUp_78 rfl ?_
    obtain ⟨o2, w⟩ := w
    refine g_iald dX2_addUp_80 sh_54 (al_54 hn) (Nat.le_of_ble_eq_true rfl) o2 ?_
    obtain ⟨o3, w⟩ := w
    refine g_iast dX2_addUp_81 sh_64 (al_64 hn) (Nat.le_of_ble_eq_true rfl) o3 ?_
    refine g_iload dX2_addUp_82 rfl ?_
    refine g_bipush dX2_addUp_84 rfl ?_
    refine g_imul dX2_addUp_86 ?_
    refine g_istore (ls' := [aP 52, aP 54, aP 60, aP 61, aI x4, aI x5, aI x6, aI (x4 * 13), aU]) dX2_addUp_87 (Nat.le_of_ble_eq_true rfl) rfl rfl ?_
    refine g_iconst dX2_addUp_89 ?_
    refine g_istore (ls' := [aP 52, aP 54, aP 60, aP 61, aI x4, aI x5, aI x6, aI (x4 * 13), aI 1]) dX2_addUp_90 (Nat.le_of_ble_eq_true rfl) rfl rfl ?_
    exact g_sub (ls' := [aP 52, aP 54, aP 60, aP 61, aI x4, aI x5, aU, aI (x4 * 13), aI 1]) ⟨Or.inr rfl, Or.inr rfl, Or.inr rfl, Or.inr rfl, Or.inr rfl, Or.inr rfl, Or.inl rfl, Or.inr rfl, Or.inr rfl, trivial⟩ w
  · refine g_aload_n dX2_addUp_33 rfl ?_
    refine g_getR dX2_addUp_34 fl_X2_45 sh_52 (al_52 hn) (fun _ _ _ => rfl) rf_52_17 ?_
    refine g_iload dX2_addUp_37 rfl ?_
    refine g_iconst dX2_addUp_39 ?_
    refine g_isub dX2_addUp_40 ?_
    obtain ⟨o4, w⟩ := w
    refine g_iald dX2_addUp_41 sh_64 (al_64 hn) (Nat.le_of_ble_eq_true rfl) o4 ?_
    refine g_aload_n dX2_addUp_42 rfl ?_
    refine g_iload dX2_addUp_43 rfl ?_
    obtain ⟨o5, w⟩ := w
    refine g_iald dX2_addUp_45 sh_54 (al_54 hn) (Nat.le_of_ble_eq_true rfl) o5 ?_
    obtain ⟨o6, w⟩ := w
    obtain ⟨o7, w⟩ := w
    refine g_cmp_le (tgt := 71) dX2_addUp_46 rfl o6 o7 ?_
    refine ite_imp (fun w => ?_) (fun w => ?_) w
    · refine g_aload_n dX2_addUp_71 rfl ?_
      refine g_getR dX2_addUp_72 fl_X2_45 sh_52 (al_52 hn) (fun _ _ _ => rfl) rf_52_17 ?_
      refine g_iload dX2_addUp_75 rfl ?_
      refine g_aload_n dX2_addUp_77 rfl ?_
      refine g_iload dX2_addUp_78 rfl ?_
      refine g_iald dX2_addUp_80 sh_54 (al_54 hn) (Nat.le_of_ble_eq_true rfl) o5 ?_
      obtain ⟨o8, w⟩ := w
      refine g_iast dX2_addUp_81 sh_64 (al_64 hn) (Nat.le_of_ble_eq_true rfl) o8 ?_
      refine g_iload dX2_addUp_82 rfl ?_
      refine g_bipush dX2_addUp_84 rfl ?_
      refine g_imul dX2_addUp_86 ?_
      refine g_istore (ls' := [aP 52, aP 54, aP 60, aP 61, aI x4, aI x5, aI x6, aI (x4 * 13), aU]) dX2_addUp_87 (Nat.le_of_ble_eq_true rfl) rfl rfl ?_
      refine g_iconst dX2_addUp_89 ?_
      refine g_istore (ls' := [aP 52, aP 54, aP 60, aP 61, aI x4, aI x5, aI x6, aI (x4 * 13), aI 1]) dX2_addUp_90 (Nat.le_of_ble_eq_true rfl) rfl rfl ?_
      exact g_sub (ls' := [aP 52, aP 54, aP 60, aP 61, aI x4, aI x5, aU, aI (x4 * 13), aI 1]) ⟨Or.inr rfl, Or.inr rfl, Or.inr rfl, Or.inr rfl, Or.inr rfl, Or.inr rfl, Or.inl rfl, Or.inr rfl, Or.inr rfl, trivial⟩ w
    · refine g_aload_n dX2_addUp_49 rfl ?_
      refine g_getR dX2_addUp_50 fl_X2_45 sh_52 (al_52 hn) (fun _ _ _ => rfl) rf_52_17 ?_
      refine g_iload dX2_addUp_53 rfl ?_
      refine g_aload_n dX2_addUp_55 rfl ?_
      refine g_getR dX2_addUp_56 fl_X2_45 sh_52 (al_52 hn) (fun _ _ _ => rfl) rf_52_17 ?_
      refine g_iload dX2_addUp_59 rfl ?_
      refine g_iconst dX2_addUp_61 ?_
      refine g_isub dX2_addUp_62 ?_
      refine g_iald dX2_addUp_63 sh_64 (al_64 hn) (Nat.le_of_ble_eq_true rfl) o4 ?_
      obtain ⟨o9, w⟩ := w
      refine g_iast dX2_addUp_64 sh_64 (al_64 hn) (Nat.le_of_ble_eq_true rfl) o9 ?_
      refine g_iinc (ls' := [aP 52, aP 54, aP 60, aP 61, aI x4, aI x5, aI (x6 + (-1)), aU, aU]) dX2_addUp_65 rfl (Nat.le_of_ble_eq_true rfl) rfl rfl ?_
      refine g_goto (tgt := 28) dX2_addUp_68 rfl ?_
      exact g_sub (ls' := [aP 52, aP 54, aP 60, aP 61, aI x4, aI x5, aI (x6 + (-1)), aU, aU]) ⟨Or.inr rfl, Or.inr rfl, Or.inr rfl, Or.inr rfl, Or.inr rfl, Or.inr rfl, Or.inr rfl, Or.inl rfl, Or.inl rfl, trivial⟩ w
theorem b_X2_addUp_h_92 {l : Launch} {D : Nat} {ζ : ZP} {h : HI} {Q : HI → Prop} {x4 x5 x7 x8 : Int} (hn : 144 ≤ ζ.2.2.2.2) (w : (rg x8) ∧ (rg x5) ∧ (if x5 < x8 then (G l (D + 1) 0 0 mX2_addUp (zz ζ) 8 [aP 52, aP 54, aP 60, aP 61, aI (x4 + (-1)), aU, aU, aU, aU] [] h (qV (zz ζ) Q)) else ((0 ≤ ((x7 + x8) - 1) ∧ ((x7 + x8) - 1) < 169) ∧ (0 ≤ (x8 - 1) ∧ (x8 - 1) < 12) ∧ (0 ≤ (x7 + x8) ∧ (x7 + x8) < 169) ∧ (0 ≤ (x5 - x8) ∧ (x5 - x8) < 12) ∧ G l (D + 1) 0 0 mX2_addUp (zz ζ) 92 [aP 52, aP 54, aP 60, aP 61, aI x4, aI x5, aU, aI x7, aI (x8 + 1)] [] (hu (hu h 60 (x7 + x8) ((h 60 ((x7 + x8) - 1)) + (h 64 (x8 - 1)))) 61 (x7 + x8) ((h 61 ((x7 + x8) - 1)) + (h 64 (x5 - x8)))) (qV (zz ζ) Q)))) : G l (D + 1) 0 0 mX2_addUp (zz ζ) 92 [aP 52, aP 54, aP 60, aP 61, aI x4, aI x5, aU, aI x7, aI x8] [] h (qV (zz ζ) Q) := by
  refine g_iload dX2_addUp_92 rfl ?_
  refine g_iload dX2_addUp_94 rfl ?_
  obtain ⟨o1, w⟩ := w
  obtain ⟨o2, w⟩ := w
  refine g_cmp_gt (tgt := 158) dX2_addUp_96 rfl o1 o2 ?_
  refine ite_imp (fun w => ?_) (fun w => ?_) w
  · refine g_iinc (ls' := [aP 52, aP 54, aP 60, aP 61, aI (x4 + (-1)), aI x5, aU, aI x7, aI x8]) dX2_addUp_158 rfl (Nat.le_of_ble_eq_true rfl) rfl rfl ?_
    refine g_goto (tgt := 8) dX2_addUp_161 rfl ?_
    exact g_sub (ls' := [aP 52, aP 54, aP 60, aP 61, aI (x4 + (-1)), aU, aU, aU, aU]) ⟨Or.inr rfl, Or.inr rfl, Or.inr rfl, Or.inr rfl, Or.inr rfl, Or.inl rfl, Or.inl rfl, Or.inl rfl, Or.inl rfl, trivial⟩ w
  · refine g_aload_n dX2_addUp_99 rfl ?_
    refine g_iload dX2_addUp_100 rfl ?_
    refine g_iload dX2_addUp_102 rfl ?_
    refine g_iadd dX2_addUp_104 ?_
    refine g_aload_n dX2_addUp_105 rfl ?_
    refine g_iload dX2_addUp_106 rfl ?_
    refine g_iload dX2_addUp_108 rfl ?_
    refine g_iadd dX2_addUp_110 ?_
    refine g_iconst dX2_addUp_111 ?_
    refine g_isub dX2_addUp_112 ?_
    obtain ⟨o3, w⟩ := w
    refine g_iald dX2_addUp_113 sh_60 (al_60 hn) (Nat.le_of_ble_eq_true rfl) o3 ?_
    refine g_aload_n dX2_addUp_114 rfl ?_
    refine g_getR dX2_addUp_115 fl_X2_45 sh_52 (al_52 hn) (fun _ _ _ => rfl) rf_52_17 ?_
    refine g_iload dX2_addUp_118 rfl ?_
    refine g_iconst dX2_addUp_120 ?_
    refine g_isub dX2_addUp_121 ?_
    obtain ⟨o4, w⟩ := w
    refine g_iald dX2_addUp_122 sh_64 (al_64 hn) (Nat.le_of_ble_eq_true rfl) o4 ?_
    refine g_iadd dX2_addUp_123 ?_
    obtain ⟨o5, w⟩ := w
    refine g_iast dX2_addUp_124 sh_60 (al_60 hn) (Nat.le_of_ble_eq_true rfl) o5 ?_
    refine g_aload_n dX2_addUp_125 rfl ?_
    refine g_iload dX2_addUp_126 rfl ?_
    refine g_iload dX2_addUp_128 rfl ?_
    refine g_iadd dX2_addUp_130 ?_
    refine g_aload_n dX2_addUp_131 rfl ?_
    refine g_iload dX2_addUp_132 rfl ?_
    refine g_iload dX2_addUp_134 rfl ?_
    refine g_iadd dX2_addUp_136 ?_
    refine g_iconst dX2_addUp_137 ?_
    refine g_isub dX2_addUp_138 ?_
    refine g_iald dX2_addUp_139 sh_61 (al_61 hn) (Nat.le_of_ble_eq_true rfl) o3 ?_
    refine g_aload_n dX2_addUp_140 rfl ?_
    refine g_getR dX2_addUp_141 fl_X2_45 sh_52 (al_52 hn) (fun _ _ _ => rfl) rf_52_17 ?_
    refine g_iload dX2_addUp_144 rfl ?_
    refine g_iload dX2_addUp_146 rfl ?_
    refine g_isub dX2_addUp_148 ?_
    obtain ⟨o6, w⟩ := w
    refine g_iald dX2_addUp_149 sh_64 (al_64 hn) (Nat.le_of_ble_eq_true rfl) o6 ?_
    refine g_iadd dX2_addUp_150 ?_
    refine g_iast dX2_addUp_151 sh_61 (al_61 hn) (Nat.le_of_ble_eq_true rfl) o5 ?_
    refine g_iinc (ls' := [aP 52, aP 54, aP 60, aP 61, aI x4, aI x5, aU, aI x7, aI (x8 + 1)]) dX2_addUp_152 rfl (Nat.le_of_ble_eq_true rfl) rfl rfl ?_
    refine g_goto (tgt := 92) dX2_addUp_155 rfl ?_
    exact g_sub (ls' := [aP 52, aP 54, aP 60, aP 61, aI x4, aI x5, aU, aI x7, aI (x8 + 1)]) ⟨Or.inr rfl, Or.inr rfl, Or.inr rfl, Or.inr rfl, Or.inr rfl, Or.inr rfl, Or.inl rfl, Or.inr rfl, Or.inr rfl, trivial⟩ w
theorem e_X2_addUp_h {l : Launch} {D : Nat} {ζ : ZP} {h : HI} {Q : HI → Prop} (hn : 144 ≤ ζ.2.2.2.2) (w : G l (D + 1) 0 0 mX2_addUp (zz ζ) 8 [aP 52, aP 54, aP 60, aP 61, aI ((h 52 0) - 1), aU, aU, aU, aU] [] h (qV (zz ζ) Q)) : RtV l (D + 1) mX2_addUp (zz ζ) [aP 52, aP 54, aP 60, aP 61] h Q := by
  refine RtV.of 5 pn_X2 [aP 52, aP 54, aP 60, aP 61, aU, aU, aU, aU, aU] rfl rfl ?_
  refine g_aload_n dX2_addUp_0 rfl ?_
  refine g_getI (J := 0) dX2_addUp_1 fl_X2_48 sh_52 (al_52 hn) (fun _ _ _ => rfl) rfl ?_
  refine g_iconst dX2_addUp_4 ?_
  refine g_isub dX2_addUp_5 ?_
  refine g_istore (ls' := [aP 52, aP 54, aP 60, aP 61, aI ((h 52 0) - 1), aU, aU, aU, aU]) dX2_addUp_6 (Nat.le_of_ble_eq_true rfl) rfl rfl ?_
  exact g_sub (ls' := [aP 52, aP 54, aP 60, aP 61, aI ((h 52 0) - 1), aU, aU, aU, aU]) ⟨Or.inr rfl, Or.inr rfl, Or.inr rfl, Or.inr rfl, Or.inr rfl, Or.inl rfl, Or.inl rfl, Or.inl rfl, Or.inl rfl, trivial⟩ w
theorem b_X2_addUp_f_8 {l : Launch} {D : Nat} {ζ : ZP} {h : HI} {Q : HI → Prop} {x4 : Int} (hn : 144 ≤ ζ.2.2.2.2) (w : (rg x4) ∧ (if x4 < 0 then (Q h) else (G l (D + 1) 0 0 mX2_addUp (zz ζ) 28 [aP 52, aP 55, aP 62, aP 63, aI x4, aI ((h 52 0) - x4), aI (((h 52 0) - x4) - 1), aU, aU] [] h (qV (zz ζ) Q)))) : G l (D + 1) 0 0 mX2_addUp (zz ζ) 8 [aP 52, aP 55, aP 62, aP 63, aI x4, aU, aU, aU, aU] [] h (qV (zz ζ) Q) := by
  refine g_iload dX2_addUp_8 rfl ?_
  obtain ⟨o1, w⟩ := w
  refine g_if_lt (tgt := 164) dX2_addUp_10 rfl o1 ?_
  refine ite_imp (fun w => ?_) (fun w => ?_) w
  · exact g_retV dX2_addUp_164 rfl w
  · refine g_aload_n dX2_addUp_13 rfl ?_
    refine g_getI (J := 0) dX2_addUp_14 fl_X2_48 sh_52 (al_52 hn) (fun _ _ _ => rfl) rfl ?_
    refine g_iload dX2_addUp_17 rfl ?_
    refine g_isub dX2_addUp_19 ?_
    refine g_istore (ls' := [aP 52, aP 55, aP 62, aP 63, aI x4, aI ((h 52 0) - x4), aU, aU, aU]) dX2_addUp_20 (Nat.le_of_ble_eq_true rfl) rfl rfl ?_
    refine g_iload dX2_addUp_22 rfl ?_
    refine g_iconst dX2_addUp_24 ?_
    refine g_isub dX2_addUp_25 ?_
    refine g_istore (ls' := [aP 52, aP 55, aP 62, aP 63, aI x4, aI ((h 52 0) - x4), aI (((h 52 0) - x4) - 1), aU, aU]) dX2_addUp_26 (Nat.le_of_ble_eq_true rfl) rfl rfl ?_
    exact g_sub (ls' := [aP 52, aP 55, aP 62, aP 63, aI x4, aI ((h 52 0) - x4), aI (((h 52 0) - x4) - 1), aU, aU]) ⟨Or.inr rfl, Or.inr rfl, Or.inr rfl, Or.inr rfl, Or.inr rfl, Or.inr rfl, Or.inr rfl, Or.inl rfl, Or.inl rfl, trivial⟩ w
theorem b_X2_addUp_f_28 {l : Launch} {D : Nat} {ζ : ZP} {h : HI} {Q : HI → Prop} {x4 x5 x6 : Int} (hn : 144 ≤ ζ.2.2.2.2) (w : (rg x6) ∧ (if x6 ≤ 0 then ((0 ≤ x4 ∧ x4 < 12) ∧ (0 ≤ x6 ∧ x6 < 12) ∧ G l (D + 1) 0 0 mX2_addUp (zz ζ) 92 [aP 52, aP 55, aP 62, aP 63, aI x4, aI x5, aU, aI (x4 * 13), aI 1] [] (hu h 64 x6 (h 55 x4)) (qV (zz ζ) Q)) else ((0 ≤ (x6 - 1) ∧ (x6 - 1) < 12) ∧ (0 ≤ x4 ∧ x4 < 12) ∧ (rg (h 64 (x6 - 1))) ∧ (rg (h 55 x4)) ∧ (if (h 64 (x6 - 1)) ≤ (h 55 x4) then ((0 ≤ x6 ∧ x6 < 12) ∧ G l (D + 1) 0 0 mX2_addUp (zz ζ) 92 [aP 52, aP 55, aP 62, aP 63, aI x4, aI x5, aU, aI (x4 * 13), aI 1] [] (hu h 64 x6 (h 55 x4)) (qV (zz ζ) Q)) else ((0 ≤ x6 ∧ x6 < 12) ∧ G l (D + 1) 0 0 mX2_addUp (zz ζ) 28 [aP 52, aP 55, aP 62, aP 63, aI x4, aI x5, aI (x6 + (-1)), aU, aU] [] (hu h 64 x6 (h 64 (x6 - 1))) (qV (zz ζ) Q)))))) : G l (D + 1) 0 0 mX2_addUp (zz ζ) 28 [aP 52, aP 55, aP 62, aP 63, aI x4, aI x5, aI x6, aU, aU] [] h (qV (zz ζ) Q) := by
  refine g_iload dX2_addUp_28 rfl ?_
  obtain ⟨o1, w⟩ := w
  refine g_if_le (tgt := 71) dX2_addUp_30 rfl o1 ?_
  refine ite_imp (fun w => ?_) (fun w => ?_) w
  · refine g_aload_n dX2_addUp_71 rfl ?_
    refine g_getR dX2_addUp_72 fl_X2_45 sh_52 (al_52 hn) (fun _ _ _ => rfl) rf_52_17 ?_
    refine g_iload dX2_addUp_75 rfl ?_
    refine g_aload_n dX2_addUp_77 rfl ?_
    refine g_iload dX2_addUp_78 rfl ?_
    obtain ⟨o2, w⟩ := w
    refine g_iald dX2_addUp_80 sh_55 (al_55 hn) (Nat.le_of_ble_eq_true rfl) o2 ?_
    obtain ⟨o3, w⟩ := w
    refine g_iast dX2_addUp_81 sh_64 (al_64 hn) (Nat.le_of_ble_eq_true rfl) o3 ?_
    refine g_iload dX2_addUp_82 rfl ?_
    refine g_bipush dX2_addUp_84 rfl ?_
    refine g_imul dX2_addUp_86 ?_
    refine g_istore (ls' := [aP 52, aP 55, aP 62, aP 63, aI x4, aI x5, aI x6, aI (x4 * 13), aU]) dX2_addUp_87 (Nat.le_of_ble_eq_true rfl) rfl rfl ?_
    refine g_iconst dX2_addUp_89 ?_
    refine g_istore (ls' := [aP 52, aP 55, aP 62, aP 63, aI x4, aI x5, aI x6, aI (x4 * 13), aI 1]) dX2_addUp_90 (Nat.le_of_ble_eq_true rfl) rfl rfl ?_
    exact g_sub (ls' := [aP 52, aP 55, aP 62, aP 63, aI x4, aI x5, aU, aI (x4 * 13), aI 1]) ⟨Or.inr rfl, Or.inr rfl, Or.inr rfl, Or.inr rfl, Or.inr rfl, Or.inr rfl, Or.inl rfl, Or.inr rfl, Or.inr rfl, trivial⟩ w
  · refine g_aload_n dX2_addUp_33 rfl ?_
    refine g_getR dX2_addUp_34 fl_X2_45 sh_52 (al_52 hn) (fun _ _ _ => rfl) rf_52_17 ?_
    refine g_iload dX2_addUp_37 rfl ?_
    refine g_iconst dX2_addUp_39 ?_
    refine g_isub dX2_addUp_40 ?_
    obtain ⟨o4, w⟩ := w
    refine g_iald dX2_addUp_41 sh_64 (al_64 hn) (Nat.le_of_ble_eq_true rfl) o4 ?_
    refine g_aload_n dX2_addUp_42 rfl ?_
    refine g_iload dX2_addUp_43 rfl ?_
    obtain ⟨o5, w⟩ := w
    refine g_iald dX2_addUp_45 sh_55 (al_55 hn) (Nat.le_of_ble_eq_true rfl) o5 ?_
    obtain ⟨o6, w⟩ := w
    obtain ⟨o7, w⟩ := w
    refine g_cmp_le (tgt := 71) dX2_addUp_46 rfl o6 o7 ?_
    refine ite_imp (fun w => ?_) (fun w => ?_) w
    · refine g_aload_n dX2_addUp_71 rfl ?_
      refine g_getR dX2_addUp_72 fl_X2_45 sh_52 (al_52 hn) (fun _ _ _ => rfl) rf_52_17 ?_
      refine g_iload dX2_addUp_75 rfl ?_
      refine g_aload_n dX2_addUp_77 rfl ?_
      refine g_iload dX2_addUp_78 rfl ?_
      refine g_iald dX2_addUp_80 sh_55 (al_55 hn) (Nat.le_of_ble_eq_true rfl) o5 ?_
      obtain ⟨o8, w⟩ := w
      refine g_iast dX2_addUp_81 sh_64 (al_64 hn) (Nat.le_of_ble_eq_true rfl) o8 ?_
      refine g_iload dX2_addUp_82 rfl ?_
      refine g_bipush dX2_addUp_84 rfl ?_
      refine g_imul dX2_addUp_86 ?_
      refine g_istore (ls' := [aP 52, aP 55, aP 62, aP 63, aI x4, aI x5, aI x6, aI (x4 * 13), aU]) dX2_addUp_87 (Nat.le_of_ble_eq_true rfl) rfl rfl ?_
      refine g_iconst dX2_addUp_89 ?_
      refine g_istore (ls' := [aP 52, aP 55, aP 62, aP 63, aI x4, aI x5, aI x6, aI (x4 * 13), aI 1]) dX2_addUp_90 (Nat.le_of_ble_eq_true rfl) rfl rfl ?_
      exact g_sub (ls' := [aP 52, aP 55, aP 62, aP 63, aI x4, aI x5, aU, aI (x4 * 13), aI 1]) ⟨Or.inr rfl, Or.inr rfl, Or.inr rfl, Or.inr rfl, Or.inr rfl, Or.inr rfl, Or.inl rfl, Or.inr rfl, Or.inr rfl, trivial⟩ w
    · refine g_aload_n dX2_addUp_49 rfl ?_
      refine g_getR dX2_addUp_50 fl_X2_45 sh_52 (al_52 hn) (fun _ _ _ => rfl) rf_52_17 ?_
      refine g_iload dX2_addUp_53 rfl ?_
      refine g_aload_n dX2_addUp_55 rfl ?_
      refine g_getR dX2_addUp_56 fl_X2_45 sh_52 (al_52 hn) (fun _ _ _ => rfl) rf_52_17 ?_
      refine g_iload dX2_addUp_59 rfl ?_
      refine g_iconst dX2_addUp_61 ?_
      refine g_isub dX2_addUp_62 ?_
      refine g_iald dX2_addUp_63 sh_64 (al_64 hn) (Nat.le_of_ble_eq_true rfl) o4 ?_
      obtain ⟨o9, w⟩ := w
      refine g_iast dX2_addUp_64 sh_64 (al_64 hn) (Nat.le_of_ble_eq_true rfl) o9 ?_
      refine g_iinc (ls' := [aP 52, aP 55, aP 62, aP 63, aI x4, aI x5, aI (x6 + (-1)), aU, aU]) dX2_addUp_65 rfl (Nat.le_of_ble_eq_true rfl) rfl rfl ?_
      refine g_goto (tgt := 28) dX2_addUp_68 rfl ?_
      exact g_sub (ls' := [aP 52, aP 55, aP 62, aP 63, aI x4, aI x5, aI (x6 + (-1)), aU, aU]) ⟨Or.inr rfl, Or.inr rfl, Or.inr rfl, Or.inr rfl, Or.inr rfl, Or.inr rfl, Or.inr rfl, Or.inl rfl, Or.inl rfl, trivial⟩ w
theorem b_X2_addUp_f_92 {l : Launch} {D : Nat} {ζ : ZP} {h : HI} {Q : HI → Prop} {x4 x5 x7 x8 : Int} (hn : 144 ≤ ζ.2.2.2.2) (w : (rg x8) ∧ (rg x5) ∧ (if x5 < x8 then (G l (D + 1) 0 0 mX2_addUp (zz ζ) 8 [aP 52, aP 55, aP 62, aP 63, aI (x4 + (-1)), aU, aU, aU, aU] [] h (qV (zz ζ) Q)) else ((0 ≤ ((x7 + x8) - 1) ∧ ((x7 + x8) - 1) < 169) ∧ (0 ≤ (x8 - 1) ∧ (x8 - 1) < 12) ∧ (0 ≤ (x7 + x8) ∧ (x7 + x8) < 169) ∧ (0 ≤ (x5 - x8) ∧ (x5 - x8) < 12) ∧ G l (D + 1) 0 0 mX2_addUp (zz ζ) 92 [aP 52, aP 55, aP 62, aP 63, aI x4, aI x5, aU, aI x7, aI (x8 + 1)] [] (hu (hu h 62 (x7 + x8) ((h 62 ((x7 + x8) - 1)) + (h 64 (x8 - 1)))) 63 (x7 + x8) ((h 63 ((x7 + x8) - 1)) + (h 64 (x5 - x8)))) (qV (zz ζ) Q)))) : G l (D + 1) 0 0 mX2_addUp (zz ζ) 92 [aP 52, aP 55, aP 62, aP 63, aI x4, aI x5, aU, aI x7, aI x8] [] h (qV (zz ζ) Q) := by
  refine g_iload dX2_addUp_92 rfl ?_
  refine g_iload dX2_addUp_94 rfl ?_
  obtain ⟨o1, w⟩ := w
  obtain ⟨o2, w⟩ := w
  refine g_cmp_gt (tgt := 158) dX2_addUp_96 rfl o1 o2 ?_
  refine ite_imp (fun w => ?_) (fun w => ?_) w
  · refine g_iinc (ls' := [aP 52, aP 55, aP 62, aP 63, aI (x4 + (-1)), aI x5, aU, aI x7, aI x8]) dX2_addUp_158 rfl (Nat.le_of_ble_eq_true rfl) rfl rfl ?_
    refine g_goto (tgt := 8) dX2_addUp_161 rfl ?_
    exact g_sub (ls' := [aP 52, aP 55, aP 62, aP 63, aI (x4 + (-1)), aU, aU, aU, aU]) ⟨Or.inr rfl, Or.inr rfl, Or.inr rfl, Or.inr rfl, Or.inr rfl, Or.inl rfl, Or.inl rfl, Or.inl rfl, Or.inl rfl, trivial⟩ w
  · refine g_aload_n dX2_addUp_99 rfl ?_
    refine g_iload dX2_addUp_100 rfl ?_
    refine g_iload dX2_addUp_102 rfl ?_
    refine g_iadd dX2_addUp_104 ?_
    refine g_aload_n dX2_addUp_105 rfl ?_
    refine g_iload dX2_addUp_106 rfl ?_
    refine g_iload dX2_addUp_108 rfl ?_
    refine g_iadd dX2_addUp_110 ?_
    refine g_iconst dX2_addUp_111 ?_
    refine g_isub dX2_addUp_112 ?_
    obtain ⟨o3, w⟩ := w
    refine g_iald dX2_addUp_113 sh_62 (al_62 hn) (Nat.le_of_ble_eq_true rfl) o3 ?_
    refine g_aload_n dX2_addUp_114 rfl ?_
    refine g_getR dX2_addUp_115 fl_X2_45 sh_52 (al_52 hn) (fun _ _ _ => rfl) rf_52_17 ?_
    refine g_iload dX2_addUp_118 rfl ?_
    refine g_iconst dX2_addUp_120 ?_
    refine g_isub dX2_addUp_121 ?_
    obtain ⟨o4, w⟩ := w
    refine g_iald dX2_addUp_122 sh_64 (al_64 hn) (Nat.le_of_ble_eq_true rfl) o4 ?_
    refine g_iadd dX2_addUp_123 ?_
    obtain ⟨o5, w⟩ := w
    refine g_iast dX2_addUp_124 sh_62 (al_62 hn) (Nat.le_of_ble_eq_true rfl) o5 ?_
    refine g_aload_n dX2_addUp_125 rfl ?_
    refine g_iload dX2_addUp_126 rfl ?_
    refine g_iload dX2_addUp_128 rfl ?_
    refine g_iadd dX2_addUp_130 ?_
    refine g_aload_n dX2_addUp_131 rfl ?_
    refine g_iload dX2_addUp_132 rfl ?_
    refine g_iload dX2_addUp_134 rfl ?_
    refine g_iadd dX2_addUp_136 ?_
    refine g_iconst dX2_addUp_137 ?_
    refine g_isub dX2_addUp_138 ?_
    refine g_iald dX2_addUp_139 sh_63 (al_63 hn) (Nat.le_of_ble_eq_true rfl) o3 ?_
    refine g_aload_n dX2_addUp_140 rfl ?_
    refine g_getR dX2_addUp_141 fl_X2_45 sh_52 (al_52 hn) (fun _ _ _ => rfl) rf_52_17 ?_
    refine g_iload dX2_addUp_144 rfl ?_
    refine g_iload dX2_addUp_146 rfl ?_
    refine g_isub dX2_addUp_148 ?_
    obtain ⟨o6, w⟩ := w
    refine g_iald dX2_addUp_149 sh_64 (al_64 hn) (Nat.le_of_ble_eq_true rfl) o6 ?_
    refine g_iadd dX2_addUp_150 ?_
    refine g_iast dX2_addUp_151 sh_63 (al_63 hn) (Nat.le_of_ble_eq_true rfl) o5 ?_
    refine g_iinc (ls' := [aP 52, aP 55, aP 62, aP 63, aI x4, aI x5, aU, aI x7, aI (x8 + 1)]) dX2_addUp_152 rfl (Nat.le_of_ble_eq_true rfl) rfl rfl ?_
    refine g_goto (tgt := 92) dX2_addUp_155 rfl ?_
    exact g_sub (ls' := [aP 52, aP 55, aP 62, aP 63, aI x4, aI x5, aU, aI x7, aI (x8 + 1)]) ⟨Or.inr rfl, Or.inr rfl, Or.inr rfl, Or.inr rfl, Or.inr rfl, Or.inr rfl, Or.inl rfl, Or.inr rfl, Or.inr rfl, trivial⟩ w
theorem e_X2_addUp_f {l : Launch} {D : Nat} {ζ : ZP} {h : HI} {Q : HI → Prop} (hn : 144 ≤ ζ.2.2.2.2) (w : G l (D + 1) 0 0 mX2_addUp (zz ζ) 8 [aP 52, aP 55, aP 62, aP 63, aI ((h 52 0) - 1), aU, aU, aU, aU] [] h (qV (zz ζ) Q)) : RtV l (D + 1) mX2_addUp (zz ζ) [aP 52, aP 55, aP 62, aP 63] h Q := by
  refine RtV.of 5 pn_X2 [aP 52, aP 55, aP 62, aP 63, aU, aU, aU, aU, aU] rfl rfl ?_
  refine g_aload_n dX2_addUp_0 rfl ?_
  refine g_getI (J := 0) dX2_addUp_1 fl_X2_48 sh_52 (al_52 hn) (fun _ _ _ => rfl) rfl ?_
  refine g_iconst dX2_addUp_4 ?_
  refine g_isub dX2_addUp_5 ?_
  refine g_istore (ls' := [aP 52, aP 55, aP 62, aP 63, aI ((h 52 0) - 1), aU, aU, aU, aU]) dX2_addUp_6 (Nat.le_of_ble_eq_true rfl) rfl rfl ?_
  exact g_sub (ls' := [aP 52, aP 55, aP 62, aP 63, aI ((h 52 0) - 1), aU, aU, aU, aU]) ⟨Or.inr rfl, Or.inr rfl, Or.inr rfl, Or.inr rfl, Or.inr rfl, Or.inl rfl, Or.inl rfl, Or.inl rfl, Or.inl rfl, trivial⟩ w
theorem b_X2_place_15 {l : Launch} {D : Nat} {ζ : ZP} {h : HI} {Q : HI → Prop} {x1 x2 x3 : Int} (hn : 144 ≤ ζ.2.2.2.2) (w : (rg x3) ∧ (rg x2) ∧ (if x2 < x3 then (Q h) else ((rg (h 52 5)) ∧ (if (h 52 5) ≤ x3 then (Q h) else ((0 ≤ x3 ∧ x3 < 12) ∧ (rg (h 59 x3)) ∧ (rg (h 52 6)) ∧ (if (h 52 6) ≤ (h 59 x3) then (G l (D + 1) 0 0 mX2_place (zz ζ) 15 [aP 52, aI x1, aI x2, aI (x3 + 1)] [] h (qV (zz ζ) Q)) else (RtV l D mX2_put (zz ζ) [aP 52, aI x1, aI x3, aI 1] h (fun h1 => RtI l D mX2_hopeful (zz ζ) [aP 52, aI ((x1 + 1) * 13)] h1 (fun r2 h2 => (rg r2) ∧ (if r2 = 0 then (RtV l D mX2_put (zz ζ) [aP 52, aI x1, aI x3, aI (-1)] h2 (fun h3 => G l (D + 1) 0 0 mX2_place (zz ζ) 15 [aP 52, aI x1, aI x2, aI (x3 + 1)] [] h3 (qV (zz ζ) Q))) else (if ¬ x3 = x2 then (RtV l D mX2_place (zz ζ) [aP 52, aI (x1 + 1), aI x2] h2 (fun h4 => RtV l D mX2_put (zz ζ) [aP 52, aI x1, aI x3, aI (-1)] h4 (fun h5 => G l (D + 1) 0 0 mX2_place (zz ζ) 15 [aP 52, aI x1, aI x2, aI (x3 + 1)] [] h5 (qV (zz ζ) Q)))) else (RtV l D mX2_place (zz ζ) [aP 52, aI (x1 + 1), aI (x2 + 1)] h2 (fun h6 => RtV l D mX2_put (zz ζ) [aP 52, aI x1, aI x3, aI (-1)] h6 (fun h7 => G l (D + 1) 0 0 mX2_place (zz ζ) 15 [aP 52, aI x1, aI x2, aI (x3 + 1)] [] h7 (qV (zz ζ) Q))))))))))))))) : G l (D + 1) 0 0 mX2_place (zz ζ) 15 [aP 52, aI x1, aI x2, aI x3] [] h (qV (zz ζ) Q) := by
  refine g_iload_n dX2_place_15 rfl ?_
  refine g_iload_n dX2_place_16 rfl ?_
  obtain ⟨o1, w⟩ := w
  obtain ⟨o2, w⟩ := w
  refine g_cmp_gt (tgt := 93) dX2_place_17 rfl o1 o2 ?_
  refine ite_imp (fun w => ?_) (fun w => ?_) w
  · exact g_retV dX2_place_93 rfl w
  · refine g_iload_n dX2_place_20 rfl ?_
    refine g_aload_n dX2_place_21 rfl ?_
    refine g_getI (J := 5) dX2_place_22 fl_X2_52 sh_52 (al_52 hn) (fun _ _ _ => rfl) rfl ?_
    obtain ⟨o3, w⟩ := w
    refine g_cmp_ge (tgt := 93) dX2_place_25 rfl o1 o3 ?_
    refine ite_imp (fun w => ?_) (fun w => ?_) w
    · exact g_retV dX2_place_93 rfl w
    · refine g_aload_n dX2_place_28 rfl ?_
      refine g_getR dX2_place_29 fl_X2_30 sh_52 (al_52 hn) (fun _ _ _ => rfl) rf_52_12 ?_
      refine g_iload_n dX2_place_32 rfl ?_
      obtain ⟨o4, w⟩ := w
      refine g_iald dX2_place_33 sh_59 (al_59 hn) (Nat.le_of_ble_eq_true rfl) o4 ?_
      refine g_aload_n dX2_place_34 rfl ?_
      refine g_getI (J := 6) dX2_place_35 fl_X2_59 sh_52 (al_52 hn) (fun _ _ _ => rfl) rfl ?_
      obtain ⟨o5, w⟩ := w
      obtain ⟨o6, w⟩ := w
      refine g_cmp_ge (tgt := 87) dX2_place_38 rfl o5 o6 ?_
      refine ite_imp (fun w => ?_) (fun w => ?_) w
      · refine g_iinc (ls' := [aP 52, aI x1, aI x2, aI (x3 + 1)]) dX2_place_87 rfl (Nat.le_of_ble_eq_true rfl) rfl rfl ?_
        refine g_goto (tgt := 15) dX2_place_90 rfl ?_
        exact g_sub (ls' := [aP 52, aI x1, aI x2, aI (x3 + 1)]) ⟨Or.inr rfl, Or.inr rfl, Or.inr rfl, Or.inr rfl, trivial⟩ w
      · refine g_aload_n dX2_place_41 rfl ?_
        refine g_iload_n dX2_place_42 rfl ?_
        refine g_iload_n dX2_place_43 rfl ?_
        refine g_iconst dX2_place_44 ?_
        refine g_callVV (n := 3) (As := [aI x1, aI x3, aI 1]) (st := []) dX2_place_45 ml_X2_82 sh_52 rfl (al_52 hn) rfl rfl (Nat.le_of_ble_eq_true rfl) (RtV.mono w (fun h1 w => ?_))
        refine g_aload_n dX2_place_48 rfl ?_
        refine g_iload_n dX2_place_49 rfl ?_
        refine g_iconst dX2_place_50 ?_
        refine g_iadd dX2_place_51 ?_
        refine g_bipush dX2_place_52 rfl ?_
        refine g_imul dX2_place_54 ?_
        refine g_callVI (n := 1) (As := [aI ((x1 + 1) * 13)]) (st := []) dX2_place_55 ml_X2_86 sh_52 rfl (al_52 hn) rfl rfl (Nat.le_of_ble_eq_true rfl) (RtI.mono w (fun r2 h2 w => ?_))
        obtain ⟨o7, w⟩ := w
        refine g_if_eq (tgt := 80) dX2_place_58 rfl o7 ?_
        refine ite_imp (fun w => ?_) (fun w => ?_) w
        · refine g_aload_n dX2_place_80 rfl ?_
          refine g_iload_n dX2_place_81 rfl ?_
          refine g_iload_n dX2_place_82 rfl ?_
          refine g_iconst dX2_place_83 ?_
          refine g_callVV (n := 3) (As := [aI x1, aI x3, aI (-1)]) (st := []) dX2_place_84 ml_X2_82 sh_52 rfl (al_52 hn) rfl rfl (Nat.le_of_ble_eq_true rfl) (RtV.mono w (fun h3 w => ?_))
          refine g_iinc (ls' := [aP 52, aI x1, aI x2, aI (x3 + 1)]) dX2_place_87 rfl (Nat.le_of_ble_eq_true rfl) rfl rfl ?_
          refine g_goto (tgt := 15) dX2_place_90 rfl ?_
          exact g_sub (ls' := [aP 52, aI x1, aI x2, aI (x3 + 1)]) ⟨Or.inr rfl, Or.inr rfl, Or.inr rfl, Or.inr rfl, trivial⟩ w
        · refine g_aload_n dX2_place_61 rfl ?_
          refine g_iload_n dX2_place_62 rfl ?_
          refine g_iconst dX2_place_63 ?_
          refine g_iadd dX2_place_64 ?_
          refine g_iload_n dX2_place_65 rfl ?_
          refine g_iload_n dX2_place_66 rfl ?_
          refine g_cmp_ne (tgt := 76) dX2_place_67 rfl o1 o2 ?_
          refine ite_imp (fun w => ?_) (fun w => ?_) w
          · refine g_iload_n dX2_place_76 rfl ?_
            refine g_callVV (n := 2) (As := [aI (x1 + 1), aI x2]) (st := []) dX2_place_77 ml_X2_75 sh_52 rfl (al_52 hn) rfl rfl (Nat.le_of_ble_eq_true rfl) (RtV.mono w (fun h4 w => ?_))
            refine g_aload_n dX2_place_80 rfl ?_
            refine g_iload_n dX2_place_81 rfl ?_
            refine g_iload_n dX2_place_82 rfl ?_
            refine g_iconst dX2_place_83 ?_
            refine g_callVV (n := 3) (As := [aI x1, aI x3, aI (-1)]) (st := []) dX2_place_84 ml_X2_82 sh_52 rfl (al_52 hn) rfl rfl (Nat.le_of_ble_eq_true rfl) (RtV.mono w (fun h5 w => ?_))
            refine g_iinc (ls' := [aP 52, aI x1, aI x2, aI (x3 + 1)]) dX2_place_87 rfl (Nat.le_of_ble_eq_true rfl) rfl rfl ?_
            refine g_goto (tgt := 15) dX2_place_90 rfl ?_
            exact g_sub (ls' := [aP 52, aI x1, aI x2, aI (x3 + 1)]) ⟨Or.inr rfl, Or.inr rfl, Or.inr rfl, Or.inr rfl, trivial⟩ w
          · refine g_iload_n dX2_place_70 rfl ?_
            refine g_iconst dX2_place_71 ?_
            refine g_iadd dX2_place_72 ?_
            refine g_goto (tgt := 77) dX2_place_73 rfl ?_
            refine g_callVV (n := 2) (As := [aI (x1 + 1), aI (x2 + 1)]) (st := []) dX2_place_77 ml_X2_75 sh_52 rfl (al_52 hn) rfl rfl (Nat.le_of_ble_eq_true rfl) (RtV.mono w (fun h6 w => ?_))
            refine g_aload_n dX2_place_80 rfl ?_
            refine g_iload_n dX2_place_81 rfl ?_
            refine g_iload_n dX2_place_82 rfl ?_
            refine g_iconst dX2_place_83 ?_
            refine g_callVV (n := 3) (As := [aI x1, aI x3, aI (-1)]) (st := []) dX2_place_84 ml_X2_82 sh_52 rfl (al_52 hn) rfl rfl (Nat.le_of_ble_eq_true rfl) (RtV.mono w (fun h7 w => ?_))
            refine g_iinc (ls' := [aP 52, aI x1, aI x2, aI (x3 + 1)]) dX2_place_87 rfl (Nat.le_of_ble_eq_true rfl) rfl rfl ?_
            refine g_goto (tgt := 15) dX2_place_90 rfl ?_
            exact g_sub (ls' := [aP 52, aI x1, aI x2, aI (x3 + 1)]) ⟨Or.inr rfl, Or.inr rfl, Or.inr rfl, Or.inr rfl, trivial⟩ w
theorem e_X2_place {l : Launch} {D : Nat} {ζ : ZP} {h : HI} {Q : HI → Prop} {x1 x2 : Int} (hn : 144 ≤ ζ.2.2.2.2) (w : (rg x1) ∧ (rg (h 52 0)) ∧ (if x1 < (h 52 0) then (G l (D + 1) 0 0 mX2_place (zz ζ) 15 [aP 52, aI x1, aI x2, aI 0] [] h (qV (zz ζ) Q)) else (RtV l D mX2_take (zz ζ) [aP 52] h (fun h1 => Q h1)))) : RtV l (D + 1) mX2_place (zz ζ) [aP 52, aI x1, aI x2] h Q := by
  refine RtV.of 1 pn_X2 [aP 52, aI x1, aI x2, aU] rfl rfl ?_
  refine g_iload_n dX2_place_0 rfl ?_
  refine g_aload_n dX2_place_1 rfl ?_
  refine g_getI (J := 0) dX2_place_2 fl_X2_48 sh_52 (al_52 hn) (fun _ _ _ => rfl) rfl ?_
  obtain ⟨o1, w⟩ := w
  obtain ⟨o2, w⟩ := w
  refine g_cmp_lt (tgt := 13) dX2_place_5 rfl o1 o2 ?_
  refine ite_imp (fun w => ?_) (fun w => ?_) w
  · refine g_iconst dX2_place_13 ?_
    refine g_istore_n (ls' := [aP 52, aI x1, aI x2, aI 0]) dX2_place_14 (Nat.le_of_ble_eq_true rfl) rfl rfl ?_
    exact g_sub (ls' := [aP 52, aI x1, aI x2, aI 0]) ⟨Or.inr rfl, Or.inr rfl, Or.inr rfl, Or.inr rfl, trivial⟩ w
  · refine g_aload_n dX2_place_8 rfl ?_
    refine g_callVV (n := 0) (As := []) (st := []) dX2_place_9 ml_X2_79 sh_52 rfl (al_52 hn) rfl rfl (Nat.le_of_ble_eq_true rfl) (RtV.mono w (fun h1 w => ?_))
    exact g_retV dX2_place_12 rfl w
theorem e_X2_put {l : Launch} {D : Nat} {ζ : ZP} {h : HI} {Q : HI → Prop} {x1 x2 x3 : Int} (hn : 144 ≤ ζ.2.2.2.2) (w : (0 ≤ x1 ∧ x1 < 12) ∧ (0 ≤ x2 ∧ x2 < 12) ∧ Q (hu (hu (hu (hu h 56 x1 x2) 57 x2 ((h 57 x2) + (x3 * (h 54 x1)))) 58 x2 ((h 58 x2) + (x3 * (h 55 x1)))) 59 x2 ((h 59 x2) + x3))) : RtV l (D + 1) mX2_put (zz ζ) [aP 52, aI x1, aI x2, aI x3] h Q := by
  refine RtV.of 0 pn_X2 [aP 52, aI x1, aI x2, aI x3] rfl rfl ?_
  refine g_aload_n dX2_put_0 rfl ?_
  refine g_getR dX2_put_1 fl_X2_21 sh_52 (al_52 hn) (fun _ _ _ => rfl) rf_52_9 ?_
  refine g_iload_n dX2_put_4 rfl ?_
  refine g_iload_n dX2_put_5 rfl ?_
  obtain ⟨o1, w⟩ := w
  refine g_iast dX2_put_6 sh_56 (al_56 hn) (Nat.le_of_ble_eq_true rfl) o1 ?_
  refine g_aload_n dX2_put_7 rfl ?_
  refine g_getR dX2_put_8 fl_X2_24 sh_52 (al_52 hn) (fun _ _ _ => rfl) rf_52_10 ?_
  refine g_iload_n dX2_put_11 rfl ?_
  refine g_dup2 dX2_put_12 rfl rfl ?_
  obtain ⟨o2, w⟩ := w
  refine g_iald dX2_put_13 sh_57 (al_57 hn) (Nat.le_of_ble_eq_true rfl) o2 ?_
  refine g_iload_n dX2_put_14 rfl ?_
  refine g_aload_n dX2_put_15 rfl ?_
  refine g_getR dX2_put_16 fl_X2_15 sh_52 (al_52 hn) (fun _ _ _ => rfl) rf_52_7 ?_
  refine g_iload_n dX2_put_19 rfl ?_
  refine g_iald dX2_put_20 sh_54 (al_54 hn) (Nat.le_of_ble_eq_true rfl) o1 ?_
  refine g_imul dX2_put_21 ?_
  refine g_iadd dX2_put_22 ?_
  refine g_iast dX2_put_23 sh_57 (al_57 hn) (Nat.le_of_ble_eq_true rfl) o2 ?_
  refine g_aload_n dX2_put_24 rfl ?_
  refine g_getR dX2_put_25 fl_X2_27 sh_52 (al_52 hn) (fun _ _ _ => rfl) rf_52_11 ?_
  refine g_iload_n dX2_put_28 rfl ?_
  refine g_dup2 dX2_put_29 rfl rfl ?_
  refine g_iald dX2_put_30 sh_58 (al_58 hn) (Nat.le_of_ble_eq_true rfl) o2 ?_
  refine g_iload_n dX2_put_31 rfl ?_
  refine g_aload_n dX2_put_32 rfl ?_
  refine g_getR dX2_put_33 fl_X2_18 sh_52 (al_52 hn) (fun _ _ _ => rfl) rf_52_8 ?_
  refine g_iload_n dX2_put_36 rfl ?_
  refine g_iald dX2_put_37 sh_55 (al_55 hn) (Nat.le_of_ble_eq_true rfl) o1 ?_
  refine g_imul dX2_put_38 ?_
  refine g_iadd dX2_put_39 ?_
  refine g_iast dX2_put_40 sh_58 (al_58 hn) (Nat.le_of_ble_eq_true rfl) o2 ?_
  refine g_aload_n dX2_put_41 rfl ?_
  refine g_getR dX2_put_42 fl_X2_30 sh_52 (al_52 hn) (fun _ _ _ => rfl) rf_52_12 ?_
  refine g_iload_n dX2_put_45 rfl ?_
  refine g_dup2 dX2_put_46 rfl rfl ?_
  refine g_iald dX2_put_47 sh_59 (al_59 hn) (Nat.le_of_ble_eq_true rfl) o2 ?_
  refine g_iload_n dX2_put_48 rfl ?_
  refine g_iadd dX2_put_49 ?_
  refine g_iast dX2_put_50 sh_59 (al_59 hn) (Nat.le_of_ble_eq_true rfl) o2 ?_
  exact g_retV dX2_put_51 rfl w
theorem b_X2_hopeful_39 {l : Launch} {D : Nat} {ζ : ZP} {h : HI} {Q : Int → HI → Prop} {x1 x2 x3 x4 x5 : Int} (hn : 144 ≤ ζ.2.2.2.2) (w : (rg x5) ∧ (rg (h 52 5)) ∧ (if (h 52 5) ≤ x5 then ((rg x3) ∧ (rg (h 52 2)) ∧ (if x3 < (h 52 2) then (Q 0 h) else ((rg x4) ∧ (rg (x2 - (((h 52 5) - 1) * (h 52 2)))) ∧ (if x4 ≤ (x2 - (((h 52 5) - 1) * (h 52 2))) then (if (h 52 2) < x3 then (Q 1 h) else ((rg (x4 - x3)) ∧ (rg (h 52 3)) ∧ (if (h 52 3) ≤ (x4 - x3) then (if ¬ (x4 - x3) = (h 52 3) then (Q 0 h) else (RtI l D mX2_leastUnlike (zz ζ) [aP 52, aI x1] h (fun r1 h1 => (rg r1) ∧ (rg (h1 52 4)) ∧ (if (h1 52 4) ≤ r1 then (Q 0 h1) else (Q 1 h1))))) else (Q 1 h)))) else (Q 0 h))))) else ((0 ≤ x5 ∧ x5 < 12) ∧ (0 ≤ (x1 + ((h 52 6) - (h 59 x5))) ∧ (x1 + ((h 52 6) - (h 59 x5))) < 169) ∧ (rg x3) ∧ (rg ((h 57 x5) + (h 61 (x1 + ((h 52 6) - (h 59 x5)))))) ∧ (rg x4) ∧ (rg ((h 57 x5) + (h 60 (x1 + ((h 52 6) - (h 59 x5)))))) ∧ G l (D + 1) 0 0 mX2_hopeful (zz ζ) 39 [aP 52, aI x1, aI x2, aI (min x3 ((h 57 x5) + (h 61 (x1 + ((h 52 6) - (h 59 x5)))))), aI (max x4 ((h 57 x5) + (h 60 (x1 + ((h 52 6) - (h 59 x5)))))), aI (x5 + 1), aU] [] h (qI (zz ζ) Q)))) : G l (D + 1) 0 0 mX2_hopeful (zz ζ) 39 [aP 52, aI x1, aI x2, aI x3, aI x4, aI x5, aU] [] h (qI (zz ζ) Q) := by
  refine g_iload dX2_hopeful_39 rfl ?_
  refine g_aload_n dX2_hopeful_41 rfl ?_
  refine g_getI (J := 5) dX2_hopeful_42 fl_X2_52 sh_52 (al_52 hn) (fun _ _ _ => rfl) rfl ?_
  obtain ⟨o1, w⟩ := w
  obtain ⟨o2, w⟩ := w
  refine g_cmp_ge (tgt := 114) dX2_hopeful_45 rfl o1 o2 ?_
  refine ite_imp (fun w => ?_) (fun w => ?_) w
  · refine g_iload_n dX2_hopeful_114 rfl ?_
    refine g_aload_n dX2_hopeful_115 rfl ?_
    refine g_getI (J := 2) dX2_hopeful_116 fl_X2_62 sh_52 (al_52 hn) (fun _ _ _ => rfl) rfl ?_
    obtain ⟨o3, w⟩ := w
    obtain ⟨o4, w⟩ := w
    refine g_cmp_lt (tgt := 140) dX2_hopeful_119 rfl o3 o4 ?_
    refine ite_imp (fun w => ?_) (fun w => ?_) w
    · refine g_iconst dX2_hopeful_140 ?_
      exact g_retZ dX2_hopeful_141 rfl (Or.inl rfl) w
    · refine g_iload dX2_hopeful_122 rfl ?_
      refine g_iload_n dX2_hopeful_124 rfl ?_
      refine g_aload_n dX2_hopeful_125 rfl ?_
      refine g_getI (J := 5) dX2_hopeful_126 fl_X2_52 sh_52 (al_52 hn) (fun _ _ _ => rfl) rfl ?_
      refine g_iconst dX2_hopeful_129 ?_
      refine g_isub dX2_hopeful_130 ?_
      refine g_aload_n dX2_hopeful_131 rfl ?_
      refine g_getI (J := 2) dX2_hopeful_132 fl_X2_62 sh_52 (al_52 hn) (fun _ _ _ => rfl) rfl ?_
      refine g_imul dX2_hopeful_135 ?_
      refine g_isub dX2_hopeful_136 ?_
      obtain ⟨o5, w⟩ := w
      obtain ⟨o6, w⟩ := w
      refine g_cmp_le (tgt := 142) dX2_hopeful_137 rfl o5 o6 ?_
      refine ite_imp (fun w => ?_) (fun w => ?_) w
      · refine g_iload_n dX2_hopeful_142 rfl ?_
        refine g_aload_n dX2_hopeful_143 rfl ?_
        refine g_getI (J := 2) dX2_hopeful_144 fl_X2_62 sh_52 (al_52 hn) (fun _ _ _ => rfl) rfl ?_
        refine g_cmp_gt (tgt := 161) dX2_hopeful_147 rfl o3 o4 ?_
        refine ite_imp (fun w => ?_) (fun w => ?_) w
        · refine g_iconst dX2_hopeful_161 ?_
          exact g_retZ dX2_hopeful_162 rfl (Or.inr rfl) w
        · refine g_iload dX2_hopeful_150 rfl ?_
          refine g_iload_n dX2_hopeful_152 rfl ?_
          refine g_isub dX2_hopeful_153 ?_
          refine g_aload_n dX2_hopeful_154 rfl ?_
          refine g_getI (J := 3) dX2_hopeful_155 fl_X2_65 sh_52 (al_52 hn) (fun _ _ _ => rfl) rfl ?_
          obtain ⟨o7, w⟩ := w
          obtain ⟨o8, w⟩ := w
          refine g_cmp_ge (tgt := 163) dX2_hopeful_158 rfl o7 o8 ?_
          refine ite_imp (fun w => ?_) (fun w => ?_) w
          · refine g_iload dX2_hopeful_163 rfl ?_
            refine g_iload_n dX2_hopeful_165 rfl ?_
            refine g_isub dX2_hopeful_166 ?_
            refine g_aload_n dX2_hopeful_167 rfl ?_
            refine g_getI (J := 3) dX2_hopeful_168 fl_X2_65 sh_52 (al_52 hn) (fun _ _ _ => rfl) rfl ?_
            refine g_cmp_ne (tgt := 190) dX2_hopeful_171 rfl o7 o8 ?_
            refine ite_imp (fun w => ?_) (fun w => ?_) w
            · refine g_iconst dX2_hopeful_190 ?_
              exact g_retZ dX2_hopeful_191 rfl (Or.inl rfl) w
            · refine g_aload_n dX2_hopeful_174 rfl ?_
              refine g_iload_n dX2_hopeful_175 rfl ?_
              refine g_callVI (n := 1) (As := [aI x1]) (st := []) dX2_hopeful_176 ml_X2_98 sh_52 rfl (al_52 hn) rfl rfl (Nat.le_of_ble_eq_true rfl) (RtI.mono w (fun r1 h1 w => ?_))
              refine g_aload_n dX2_hopeful_179 rfl ?_
              refine g_getI (J := 4) dX2_hopeful_180 fl_X2_68 sh_52 (al_52 hn) (fun _ _ _ => rfl) rfl ?_
              obtain ⟨o9, w⟩ := w
              obtain ⟨o10, w⟩ := w
              refine g_cmp_ge (tgt := 190) dX2_hopeful_183 rfl o9 o10 ?_
              refine ite_imp (fun w => ?_) (fun w => ?_) w
              · refine g_iconst dX2_hopeful_190 ?_
                exact g_retZ dX2_hopeful_191 rfl (Or.inl rfl) w
              · refine g_iconst dX2_hopeful_186 ?_
                refine g_goto (tgt := 191) dX2_hopeful_187 rfl ?_
                exact g_retZ dX2_hopeful_191 rfl (Or.inr rfl) w
          · refine g_iconst dX2_hopeful_161 ?_
            exact g_retZ dX2_hopeful_162 rfl (Or.inr rfl) w
      · refine g_iconst dX2_hopeful_140 ?_
        exact g_retZ dX2_hopeful_141 rfl (Or.inl rfl) w
  · refine g_aload_n dX2_hopeful_48 rfl ?_
    refine g_getI (J := 6) dX2_hopeful_49 fl_X2_59 sh_52 (al_52 hn) (fun _ _ _ => rfl) rfl ?_
    refine g_aload_n dX2_hopeful_52 rfl ?_
    refine g_getR dX2_hopeful_53 fl_X2_30 sh_52 (al_52 hn) (fun _ _ _ => rfl) rf_52_12 ?_
    refine g_iload dX2_hopeful_56 rfl ?_
    obtain ⟨o11, w⟩ := w
    refine g_iald dX2_hopeful_58 sh_59 (al_59 hn) (Nat.le_of_ble_eq_true rfl) o11 ?_
    refine g_isub dX2_hopeful_59 ?_
    refine g_istore (ls' := [aP 52, aI x1, aI x2, aI x3, aI x4, aI x5, aI ((h 52 6) - (h 59 x5))]) dX2_hopeful_60 (Nat.le_of_ble_eq_true rfl) rfl rfl ?_
    refine g_iload_n dX2_hopeful_62 rfl ?_
    refine g_aload_n dX2_hopeful_63 rfl ?_
    refine g_getR dX2_hopeful_64 fl_X2_24 sh_52 (al_52 hn) (fun _ _ _ => rfl) rf_52_10 ?_
    refine g_iload dX2_hopeful_67 rfl ?_
    refine g_iald dX2_hopeful_69 sh_57 (al_57 hn) (Nat.le_of_ble_eq_true rfl) o11 ?_
    refine g_aload_n dX2_hopeful_70 rfl ?_
    refine g_getR dX2_hopeful_71 fl_X2_36 sh_52 (al_52 hn) (fun _ _ _ => rfl) rf_52_14 ?_
    refine g_iload_n dX2_hopeful_74 rfl ?_
    refine g_iload dX2_hopeful_75 rfl ?_
    refine g_iadd dX2_hopeful_77 ?_
    obtain ⟨o12, w⟩ := w
    refine g_iald dX2_hopeful_78 sh_61 (al_61 hn) (Nat.le_of_ble_eq_true rfl) o12 ?_
    refine g_iadd dX2_hopeful_79 ?_
    obtain ⟨o13, w⟩ := w
    obtain ⟨o14, w⟩ := w
    refine g_min dX2_hopeful_80 mm_X2_90 (Nat.le_of_ble_eq_true rfl) o13 o14 ?_
    refine g_istore_n (ls' := [aP 52, aI x1, aI x2, aI (min x3 ((h 57 x5) + (h 61 (x1 + ((h 52 6) - (h 59 x5)))))), aI x4, aI x5, aI ((h 52 6) - (h 59 x5))]) dX2_hopeful_83 (Nat.le_of_ble_eq_true rfl) rfl rfl ?_
    refine g_iload dX2_hopeful_84 rfl ?_
    refine g_aload_n dX2_hopeful_86 rfl ?_
    refine g_getR dX2_hopeful_87 fl_X2_24 sh_52 (al_52 hn) (fun _ _ _ => rfl) rf_52_10 ?_
    refine g_iload dX2_hopeful_90 rfl ?_
    refine g_iald dX2_hopeful_92 sh_57 (al_57 hn) (Nat.le_of_ble_eq_true rfl) o11 ?_
    refine g_aload_n dX2_hopeful_93 rfl ?_
    refine g_getR dX2_hopeful_94 fl_X2_33 sh_52 (al_52 hn) (fun _ _ _ => rfl) rf_52_13 ?_
    refine g_iload_n dX2_hopeful_97 rfl ?_
    refine g_iload dX2_hopeful_98 rfl ?_
    refine g_iadd dX2_hopeful_100 ?_
    refine g_iald dX2_hopeful_101 sh_60 (al_60 hn) (Nat.le_of_ble_eq_true rfl) o12 ?_
    refine g_iadd dX2_hopeful_102 ?_
    obtain ⟨o15, w⟩ := w
    obtain ⟨o16, w⟩ := w
    refine g_max dX2_hopeful_103 mm_X2_95 (Nat.le_of_ble_eq_true rfl) o15 o16 ?_
    refine g_istore (ls' := [aP 52, aI x1, aI x2, aI (min x3 ((h 57 x5) + (h 61 (x1 + ((h 52 6) - (h 59 x5)))))), aI (max x4 ((h 57 x5) + (h 60 (x1 + ((h 52 6) - (h 59 x5)))))), aI x5, aI ((h 52 6) - (h 59 x5))]) dX2_hopeful_106 (Nat.le_of_ble_eq_true rfl) rfl rfl ?_
    refine g_iinc (ls' := [aP 52, aI x1, aI x2, aI (min x3 ((h 57 x5) + (h 61 (x1 + ((h 52 6) - (h 59 x5)))))), aI (max x4 ((h 57 x5) + (h 60 (x1 + ((h 52 6) - (h 59 x5)))))), aI (x5 + 1), aI ((h 52 6) - (h 59 x5))]) dX2_hopeful_108 rfl (Nat.le_of_ble_eq_true rfl) rfl rfl ?_
    refine g_goto (tgt := 39) dX2_hopeful_111 rfl ?_
    exact g_sub (ls' := [aP 52, aI x1, aI x2, aI (min x3 ((h 57 x5) + (h 61 (x1 + ((h 52 6) - (h 59 x5)))))), aI (max x4 ((h 57 x5) + (h 60 (x1 + ((h 52 6) - (h 59 x5)))))), aI (x5 + 1), aU]) ⟨Or.inr rfl, Or.inr rfl, Or.inr rfl, Or.inr rfl, Or.inr rfl, Or.inr rfl, Or.inl rfl, trivial⟩ w
theorem e_X2_hopeful {l : Launch} {D : Nat} {ζ : ZP} {h : HI} {Q : Int → HI → Prop} {x1 : Int} (hn : 144 ≤ ζ.2.2.2.2) (w : (0 ≤ (h 52 0) ∧ (h 52 0) < 169) ∧ RtI l D mX11_cut (zz ζ) [aI (h 61 (h 52 0)), aI (h 52 5)] h (fun r1 h1 => RtI l D mX11_cut (zz ζ) [aI (((h 61 (h 52 0)) + (h1 52 5)) - 1), aI (h1 52 5)] h1 (fun r2 h2 => G l (D + 1) 0 0 mX2_hopeful (zz ζ) 39 [aP 52, aI x1, aI (h 61 (h 52 0)), aI r1, aI r2, aI 0, aU] [] h2 (qI (zz ζ) Q)))) : RtI l (D + 1) mX2_hopeful (zz ζ) [aP 52, aI x1] h Q := by
  refine RtI.of 5 pn_X2 [aP 52, aI x1, aU, aU, aU, aU, aU] rfl rfl ?_
  refine g_aload_n dX2_hopeful_0 rfl ?_
  refine g_getR dX2_hopeful_1 fl_X2_36 sh_52 (al_52 hn) (fun _ _ _ => rfl) rf_52_14 ?_
  refine g_aload_n dX2_hopeful_4 rfl ?_
  refine g_getI (J := 0) dX2_hopeful_5 fl_X2_48 sh_52 (al_52 hn) (fun _ _ _ => rfl) rfl ?_
  obtain ⟨o1, w⟩ := w
  refine g_iald dX2_hopeful_8 sh_61 (al_61 hn) (Nat.le_of_ble_eq_true rfl) o1 ?_
  refine g_istore_n (ls' := [aP 52, aI x1, aI (h 61 (h 52 0)), aU, aU, aU, aU]) dX2_hopeful_9 (Nat.le_of_ble_eq_true rfl) rfl rfl ?_
  refine g_iload_n dX2_hopeful_10 rfl ?_
  refine g_aload_n dX2_hopeful_11 rfl ?_
  refine g_getI (J := 5) dX2_hopeful_12 fl_X2_52 sh_52 (al_52 hn) (fun _ _ _ => rfl) rfl ?_
  refine g_callSNI (n := 2) (As := [aI (h 61 (h 52 0)), aI (h 52 5)]) (st := []) dX2_hopeful_15 ml_X2_55 rfl rfl (Nat.le_of_ble_eq_true rfl) (RtI.mono w (fun r1 h1 w => ?_))
  refine g_istore_n (ls' := [aP 52, aI x1, aI (h 61 (h 52 0)), aI r1, aU, aU, aU]) dX2_hopeful_18 (Nat.le_of_ble_eq_true rfl) rfl rfl ?_
  refine g_iload_n dX2_hopeful_19 rfl ?_
  refine g_aload_n dX2_hopeful_20 rfl ?_
  refine g_getI (J := 5) dX2_hopeful_21 fl_X2_52 sh_52 (al_52 hn) (fun _ _ _ => rfl) rfl ?_
  refine g_iadd dX2_hopeful_24 ?_
  refine g_iconst dX2_hopeful_25 ?_
  refine g_isub dX2_hopeful_26 ?_
  refine g_aload_n dX2_hopeful_27 rfl ?_
  refine g_getI (J := 5) dX2_hopeful_28 fl_X2_52 sh_52 (al_52 hn) (fun _ _ _ => rfl) rfl ?_
  refine g_callSNI (n := 2) (As := [aI (((h 61 (h 52 0)) + (h1 52 5)) - 1), aI (h1 52 5)]) (st := []) dX2_hopeful_31 ml_X2_55 rfl rfl (Nat.le_of_ble_eq_true rfl) (RtI.mono w (fun r2 h2 w => ?_))
  refine g_istore (ls' := [aP 52, aI x1, aI (h 61 (h 52 0)), aI r1, aI r2, aU, aU]) dX2_hopeful_34 (Nat.le_of_ble_eq_true rfl) rfl rfl ?_
  refine g_iconst dX2_hopeful_36 ?_
  refine g_istore (ls' := [aP 52, aI x1, aI (h 61 (h 52 0)), aI r1, aI r2, aI 0, aU]) dX2_hopeful_37 (Nat.le_of_ble_eq_true rfl) rfl rfl ?_
  exact g_sub (ls' := [aP 52, aI x1, aI (h 61 (h 52 0)), aI r1, aI r2, aI 0, aU]) ⟨Or.inr rfl, Or.inr rfl, Or.inr rfl, Or.inr rfl, Or.inr rfl, Or.inr rfl, Or.inl rfl, trivial⟩ w
theorem b_X2_leastUnlike_39 {l : Launch} {D : Nat} {ζ : ZP} {h : HI} {Q : Int → HI → Prop} {x1 x3 x4 x5 : Int} (hn : 144 ≤ ζ.2.2.2.2) (w : (rg x5) ∧ (rg (h 52 5)) ∧ (if (h 52 5) ≤ x5 then (Q (x4 - x3) h) else ((0 ≤ x5 ∧ x5 < 12) ∧ (0 ≤ (x1 + ((h 52 6) - (h 59 x5))) ∧ (x1 + ((h 52 6) - (h 59 x5))) < 169) ∧ (rg x3) ∧ (rg ((h 58 x5) + (h 63 (x1 + ((h 52 6) - (h 59 x5)))))) ∧ (rg x4) ∧ (rg ((h 58 x5) + (h 62 (x1 + ((h 52 6) - (h 59 x5)))))) ∧ G l (D + 1) 0 0 mX2_leastUnlike (zz ζ) 39 [aP 52, aI x1, aU, aI (min x3 ((h 58 x5) + (h 63 (x1 + ((h 52 6) - (h 59 x5)))))), aI (max x4 ((h 58 x5) + (h 62 (x1 + ((h 52 6) - (h 59 x5)))))), aI (x5 + 1), aU] [] h (qI (zz ζ) Q)))) : G l (D + 1) 0 0 mX2_leastUnlike (zz ζ) 39 [aP 52, aI x1, aU, aI x3, aI x4, aI x5, aU] [] h (qI (zz ζ) Q) := by
  refine g_iload dX2_leastUnlike_39 rfl ?_
  refine g_aload_n dX2_leastUnlike_41 rfl ?_
  refine g_getI (J := 5) dX2_leastUnlike_42 fl_X2_52 sh_52 (al_52 hn) (fun _ _ _ => rfl) rfl ?_
  obtain ⟨o1, w⟩ := w
  obtain ⟨o2, w⟩ := w
  refine g_cmp_ge (tgt := 114) dX2_leastUnlike_45 rfl o1 o2 ?_
  refine ite_imp (fun w => ?_) (fun w => ?_) w
  · refine g_iload dX2_leastUnlike_114 rfl ?_
    refine g_iload_n dX2_leastUnlike_116 rfl ?_
    refine g_isub dX2_leastUnlike_117 ?_
    exact g_retI dX2_leastUnlike_118 rfl w
  · refine g_aload_n dX2_leastUnlike_48 rfl ?_
    refine g_getI (J := 6) dX2_leastUnlike_49 fl_X2_59 sh_52 (al_52 hn) (fun _ _ _ => rfl) rfl ?_
    refine g_aload_n dX2_leastUnlike_52 rfl ?_
    refine g_getR dX2_leastUnlike_53 fl_X2_30 sh_52 (al_52 hn) (fun _ _ _ => rfl) rf_52_12 ?_
    refine g_iload dX2_leastUnlike_56 rfl ?_
    obtain ⟨o3, w⟩ := w
    refine g_iald dX2_leastUnlike_58 sh_59 (al_59 hn) (Nat.le_of_ble_eq_true rfl) o3 ?_
    refine g_isub dX2_leastUnlike_59 ?_
    refine g_istore (ls' := [aP 52, aI x1, aU, aI x3, aI x4, aI x5, aI ((h 52 6) - (h 59 x5))]) dX2_leastUnlike_60 (Nat.le_of_ble_eq_true rfl) rfl rfl ?_
    refine g_iload_n dX2_leastUnlike_62 rfl ?_
    refine g_aload_n dX2_leastUnlike_63 rfl ?_
    refine g_getR dX2_leastUnlike_64 fl_X2_27 sh_52 (al_52 hn) (fun _ _ _ => rfl) rf_52_11 ?_
    refine g_iload dX2_leastUnlike_67 rfl ?_
    refine g_iald dX2_leastUnlike_69 sh_58 (al_58 hn) (Nat.le_of_ble_eq_true rfl) o3 ?_
    refine g_aload_n dX2_leastUnlike_70 rfl ?_
    refine g_getR dX2_leastUnlike_71 fl_X2_42 sh_52 (al_52 hn) (fun _ _ _ => rfl) rf_52_16 ?_
    refine g_iload_n dX2_leastUnlike_74 rfl ?_
    refine g_iload dX2_leastUnlike_75 rfl ?_
    refine g_iadd dX2_leastUnlike_77 ?_
    obtain ⟨o4, w⟩ := w
    refine g_iald dX2_leastUnlike_78 sh_63 (al_63 hn) (Nat.le_of_ble_eq_true rfl) o4 ?_
    refine g_iadd dX2_leastUnlike_79 ?_
    obtain ⟨o5, w⟩ := w
    obtain ⟨o6, w⟩ := w
    refine g_min dX2_leastUnlike_80 mm_X2_90 (Nat.le_of_ble_eq_true rfl) o5 o6 ?_
    refine g_istore_n (ls' := [aP 52, aI x1, aU, aI (min x3 ((h 58 x5) + (h 63 (x1 + ((h 52 6) - (h 59 x5)))))), aI x4, aI x5, aI ((h 52 6) - (h 59 x5))]) dX2_leastUnlike_83 (Nat.le_of_ble_eq_true rfl) rfl rfl ?_
    refine g_iload dX2_leastUnlike_84 rfl ?_
    refine g_aload_n dX2_leastUnlike_86 rfl ?_
    refine g_getR dX2_leastUnlike_87 fl_X2_27 sh_52 (al_52 hn) (fun _ _ _ => rfl) rf_52_11 ?_
    refine g_iload dX2_leastUnlike_90 rfl ?_
    refine g_iald dX2_leastUnlike_92 sh_58 (al_58 hn) (Nat.le_of_ble_eq_true rfl) o3 ?_
    refine g_aload_n dX2_leastUnlike_93 rfl ?_
    refine g_getR dX2_leastUnlike_94 fl_X2_39 sh_52 (al_52 hn) (fun _ _ _ => rfl) rf_52_15 ?_
    refine g_iload_n dX2_leastUnlike_97 rfl ?_
    refine g_iload dX2_leastUnlike_98 rfl ?_
    refine g_iadd dX2_leastUnlike_100 ?_
    refine g_iald dX2_leastUnlike_101 sh_62 (al_62 hn) (Nat.le_of_ble_eq_true rfl) o4 ?_
    refine g_iadd dX2_leastUnlike_102 ?_
    obtain ⟨o7, w⟩ := w
    obtain ⟨o8, w⟩ := w
    refine g_max dX2_leastUnlike_103 mm_X2_95 (Nat.le_of_ble_eq_true rfl) o7 o8 ?_
    refine g_istore (ls' := [aP 52, aI x1, aU, aI (min x3 ((h 58 x5) + (h 63 (x1 + ((h 52 6) - (h 59 x5)))))), aI (max x4 ((h 58 x5) + (h 62 (x1 + ((h 52 6) - (h 59 x5)))))), aI x5, aI ((h 52 6) - (h 59 x5))]) dX2_leastUnlike_106 (Nat.le_of_ble_eq_true rfl) rfl rfl ?_
    refine g_iinc (ls' := [aP 52, aI x1, aU, aI (min x3 ((h 58 x5) + (h 63 (x1 + ((h 52 6) - (h 59 x5)))))), aI (max x4 ((h 58 x5) + (h 62 (x1 + ((h 52 6) - (h 59 x5)))))), aI (x5 + 1), aI ((h 52 6) - (h 59 x5))]) dX2_leastUnlike_108 rfl (Nat.le_of_ble_eq_true rfl) rfl rfl ?_
    refine g_goto (tgt := 39) dX2_leastUnlike_111 rfl ?_
    exact g_sub (ls' := [aP 52, aI x1, aU, aI (min x3 ((h 58 x5) + (h 63 (x1 + ((h 52 6) - (h 59 x5)))))), aI (max x4 ((h 58 x5) + (h 62 (x1 + ((h 52 6) - (h 59 x5)))))), aI (x5 + 1), aU]) ⟨Or.inr rfl, Or.inr rfl, Or.inl rfl, Or.inr rfl, Or.inr rfl, Or.inr rfl, Or.inl rfl, trivial⟩ w
theorem e_X2_leastUnlike {l : Launch} {D : Nat} {ζ : ZP} {h : HI} {Q : Int → HI → Prop} {x1 : Int} (hn : 144 ≤ ζ.2.2.2.2) (w : (0 ≤ (h 52 0) ∧ (h 52 0) < 169) ∧ RtI l D mX11_cut (zz ζ) [aI (h 63 (h 52 0)), aI (h 52 5)] h (fun r1 h1 => RtI l D mX11_cut (zz ζ) [aI (((h 63 (h 52 0)) + (h1 52 5)) - 1), aI (h1 52 5)] h1 (fun r2 h2 => G l (D + 1) 0 0 mX2_leastUnlike (zz ζ) 39 [aP 52, aI x1, aU, aI r1, aI r2, aI 0, aU] [] h2 (qI (zz ζ) Q)))) : RtI l (D + 1) mX2_leastUnlike (zz ζ) [aP 52, aI x1] h Q := by
  refine RtI.of 5 pn_X2 [aP 52, aI x1, aU, aU, aU, aU, aU] rfl rfl ?_
  refine g_aload_n dX2_leastUnlike_0 rfl ?_
  refine g_getR dX2_leastUnlike_1 fl_X2_42 sh_52 (al_52 hn) (fun _ _ _ => rfl) rf_52_16 ?_
  refine g_aload_n dX2_leastUnlike_4 rfl ?_
  refine g_getI (J := 0) dX2_leastUnlike_5 fl_X2_48 sh_52 (al_52 hn) (fun _ _ _ => rfl) rfl ?_
  obtain ⟨o1, w⟩ := w
  refine g_iald dX2_leastUnlike_8 sh_63 (al_63 hn) (Nat.le_of_ble_eq_true rfl) o1 ?_
  refine g_istore_n (ls' := [aP 52, aI x1, aI (h 63 (h 52 0)), aU, aU, aU, aU]) dX2_leastUnlike_9 (Nat.le_of_ble_eq_true rfl) rfl rfl ?_
  refine g_iload_n dX2_leastUnlike_10 rfl ?_
  refine g_aload_n dX2_leastUnlike_11 rfl ?_
  refine g_getI (J := 5) dX2_leastUnlike_12 fl_X2_52 sh_52 (al_52 hn) (fun _ _ _ => rfl) rfl ?_
  refine g_callSNI (n := 2) (As := [aI (h 63 (h 52 0)), aI (h 52 5)]) (st := []) dX2_leastUnlike_15 ml_X2_55 rfl rfl (Nat.le_of_ble_eq_true rfl) (RtI.mono w (fun r1 h1 w => ?_))
  refine g_istore_n (ls' := [aP 52, aI x1, aI (h 63 (h 52 0)), aI r1, aU, aU, aU]) dX2_leastUnlike_18 (Nat.le_of_ble_eq_true rfl) rfl rfl ?_
  refine g_iload_n dX2_leastUnlike_19 rfl ?_
  refine g_aload_n dX2_leastUnlike_20 rfl ?_
  refine g_getI (J := 5) dX2_leastUnlike_21 fl_X2_52 sh_52 (al_52 hn) (fun _ _ _ => rfl) rfl ?_
  refine g_iadd dX2_leastUnlike_24 ?_
  refine g_iconst dX2_leastUnlike_25 ?_
  refine g_isub dX2_leastUnlike_26 ?_
  refine g_aload_n dX2_leastUnlike_27 rfl ?_
  refine g_getI (J := 5) dX2_leastUnlike_28 fl_X2_52 sh_52 (al_52 hn) (fun _ _ _ => rfl) rfl ?_
  refine g_callSNI (n := 2) (As := [aI (((h 63 (h 52 0)) + (h1 52 5)) - 1), aI (h1 52 5)]) (st := []) dX2_leastUnlike_31 ml_X2_55 rfl rfl (Nat.le_of_ble_eq_true rfl) (RtI.mono w (fun r2 h2 w => ?_))
  refine g_istore (ls' := [aP 52, aI x1, aI (h 63 (h 52 0)), aI r1, aI r2, aU, aU]) dX2_leastUnlike_34 (Nat.le_of_ble_eq_true rfl) rfl rfl ?_
  refine g_iconst dX2_leastUnlike_36 ?_
  refine g_istore (ls' := [aP 52, aI x1, aI (h 63 (h 52 0)), aI r1, aI r2, aI 0, aU]) dX2_leastUnlike_37 (Nat.le_of_ble_eq_true rfl) rfl rfl ?_
  exact g_sub (ls' := [aP 52, aI x1, aU, aI r1, aI r2, aI 0, aU]) ⟨Or.inr rfl, Or.inr rfl, Or.inl rfl, Or.inr rfl, Or.inr rfl, Or.inr rfl, Or.inl rfl, trivial⟩ w
theorem b_X2_take_34 {l : Launch} {D : Nat} {ζ : ZP} {h : HI} {Q : HI → Prop} {x1 x2 x3 x4 : Int} (hn : 144 ≤ ζ.2.2.2.2) (w : (rg x4) ∧ (rg (h 52 5)) ∧ (if (h 52 5) ≤ x4 then (((0 : Int) ≤ 0 ∧ (0 : Int) ≤ 0 ∧ (0 : Int) ≤ (h 52 0) ∧ 0 + (h 52 0) ≤ 12 ∧ 0 + (h 52 0) ≤ 12) ∧ Q (hcp (hu (hu h 52 3 (x1 - (h 52 2))) 52 4 (x3 - x2)) 56 0 53 0 (h 52 0))) else ((0 ≤ x4 ∧ x4 < 12) ∧ (rg (h 52 2)) ∧ (rg (h 57 x4)) ∧ (rg x1) ∧ (rg x2) ∧ (rg (h 58 x4)) ∧ (rg x3) ∧ G l (D + 1) 0 0 mX2_take (zz ζ) 34 [aP 52, aI (max x1 (h 57 x4)), aI (min x2 (h 58 x4)), aI (max x3 (h 58 x4)), aI (x4 + 1)] [] (hu h 52 2 (min (h 52 2) (h 57 x4))) (qV (zz ζ) Q)))) : G l (D + 1) 0 0 mX2_take (zz ζ) 34 [aP 52, aI x1, aI x2, aI x3, aI x4] [] h (qV (zz ζ) Q) := by
  refine g_iload dX2_take_34 rfl ?_
  refine g_aload_n dX2_take_36 rfl ?_
  refine g_getI (J := 5) dX2_take_37 fl_X2_52 sh_52 (al_52 hn) (fun _ _ _ => rfl) rfl ?_
  obtain ⟨o1, w⟩ := w
  obtain ⟨o2, w⟩ := w
  refine g_cmp_ge (tgt := 103) dX2_take_40 rfl o1 o2 ?_
  refine ite_imp (fun w => ?_) (fun w => ?_) w
  · refine g_aload_n dX2_take_103 rfl ?_
    refine g_iload_n dX2_take_104 rfl ?_
    refine g_aload_n dX2_take_105 rfl ?_
    refine g_getI (J := 2) dX2_take_106 fl_X2_62 sh_52 (al_52 hn) (fun _ _ _ => rfl) rfl ?_
    refine g_isub dX2_take_109 ?_
    refine g_putI (J := 3) dX2_take_110 fl_X2_65 sh_52 (al_52 hn) rfl rfl ?_
    refine g_aload_n dX2_take_113 rfl ?_
    refine g_iload_n dX2_take_114 rfl ?_
    refine g_iload_n dX2_take_115 rfl ?_
    refine g_isub dX2_take_116 ?_
    refine g_putI (J := 4) dX2_take_117 fl_X2_68 sh_52 (al_52 hn) rfl rfl ?_
    refine g_aload_n dX2_take_120 rfl ?_
    refine g_getR dX2_take_121 fl_X2_21 sh_52 (al_52 hn) (fun _ _ _ => rfl) rf_52_9 ?_
    refine g_iconst dX2_take_124 ?_
    refine g_aload_n dX2_take_125 rfl ?_
    refine g_getR dX2_take_126 fl_X2_11 sh_52 (al_52 hn) (fun _ _ _ => rfl) rf_52_1 ?_
    refine g_iconst dX2_take_129 ?_
    refine g_aload_n dX2_take_130 rfl ?_
    refine g_getI (J := 0) dX2_take_131 fl_X2_48 sh_52 (al_52 hn) (fun _ _ _ => rfl) rfl ?_
    obtain ⟨o3, w⟩ := w
    refine g_copy dX2_take_134 cw_X2_102 (Nat.le_of_ble_eq_true rfl) sh_56 (al_56 hn) sh_53 (al_53 hn) (Nat.le_of_ble_eq_true rfl) (Nat.le_of_ble_eq_true rfl) o3 ?_
    exact g_retV dX2_take_137 rfl w
  · refine g_aload_n dX2_take_43 rfl ?_
    refine g_aload_n dX2_take_44 rfl ?_
    refine g_getI (J := 2) dX2_take_45 fl_X2_62 sh_52 (al_52 hn) (fun _ _ _ => rfl) rfl ?_
    refine g_aload_n dX2_take_48 rfl ?_
    refine g_getR dX2_take_49 fl_X2_24 sh_52 (al_52 hn) (fun _ _ _ => rfl) rf_52_10 ?_
    refine g_iload dX2_take_52 rfl ?_
    obtain ⟨o4, w⟩ := w
    refine g_iald dX2_take_54 sh_57 (al_57 hn) (Nat.le_of_ble_eq_true rfl) o4 ?_
    obtain ⟨o5, w⟩ := w
    obtain ⟨o6, w⟩ := w
    refine g_min dX2_take_55 mm_X2_90 (Nat.le_of_ble_eq_true rfl) o5 o6 ?_
    refine g_putI (J := 2) dX2_take_58 fl_X2_62 sh_52 (al_52 hn) rfl rfl ?_
    refine g_iload_n dX2_take_61 rfl ?_
    refine g_aload_n dX2_take_62 rfl ?_
    refine g_getR dX2_take_63 fl_X2_24 sh_52 (al_52 hn) (fun _ _ _ => rfl) rf_52_10 ?_
    refine g_iload dX2_take_66 rfl ?_
    refine g_iald dX2_take_68 sh_57 (al_57 hn) (Nat.le_of_ble_eq_true rfl) o4 ?_
    obtain ⟨o7, w⟩ := w
    refine g_max dX2_take_69 mm_X2_95 (Nat.le_of_ble_eq_true rfl) o7 o6 ?_
    refine g_istore_n (ls' := [aP 52, aI (max x1 (h 57 x4)), aI x2, aI x3, aI x4]) dX2_take_72 (Nat.le_of_ble_eq_true rfl) rfl rfl ?_
    refine g_iload_n dX2_take_73 rfl ?_
    refine g_aload_n dX2_take_74 rfl ?_
    refine g_getR dX2_take_75 fl_X2_27 sh_52 (al_52 hn) (fun _ _ _ => rfl) rf_52_11 ?_
    refine g_iload dX2_take_78 rfl ?_
    refine g_iald dX2_take_80 sh_58 (al_58 hn) (Nat.le_of_ble_eq_true rfl) o4 ?_
    obtain ⟨o8, w⟩ := w
    obtain ⟨o9, w⟩ := w
    refine g_min dX2_take_81 mm_X2_90 (Nat.le_of_ble_eq_true rfl) o8 o9 ?_
    refine g_istore_n (ls' := [aP 52, aI (max x1 (h 57 x4)), aI (min x2 (h 58 x4)), aI x3, aI x4]) dX2_take_84 (Nat.le_of_ble_eq_true rfl) rfl rfl ?_
    refine g_iload_n dX2_take_85 rfl ?_
    refine g_aload_n dX2_take_86 rfl ?_
    refine g_getR dX2_take_87 fl_X2_27 sh_52 (al_52 hn) (fun _ _ _ => rfl) rf_52_11 ?_
    refine g_iload dX2_take_90 rfl ?_
    refine g_iald dX2_take_92 sh_58 (al_58 hn) (Nat.le_of_ble_eq_true rfl) o4 ?_
    obtain ⟨o10, w⟩ := w
    refine g_max dX2_take_93 mm_X2_95 (Nat.le_of_ble_eq_true rfl) o10 o9 ?_
    refine g_istore_n (ls' := [aP 52, aI (max x1 (h 57 x4)), aI (min x2 (h 58 x4)), aI (max x3 (h 58 x4)), aI x4]) dX2_take_96 (Nat.le_of_ble_eq_true rfl) rfl rfl ?_
    refine g_iinc (ls' := [aP 52, aI (max x1 (h 57 x4)), aI (min x2 (h 58 x4)), aI (max x3 (h 58 x4)), aI (x4 + 1)]) dX2_take_97 rfl (Nat.le_of_ble_eq_true rfl) rfl rfl ?_
    refine g_goto (tgt := 34) dX2_take_100 rfl ?_
    exact g_sub (ls' := [aP 52, aI (max x1 (h 57 x4)), aI (min x2 (h 58 x4)), aI (max x3 (h 58 x4)), aI (x4 + 1)]) ⟨Or.inr rfl, Or.inr rfl, Or.inr rfl, Or.inr rfl, Or.inr rfl, trivial⟩ w
theorem e_X2_take {l : Launch} {D : Nat} {ζ : ZP} {h : HI} {Q : HI → Prop} (hn : 144 ≤ ζ.2.2.2.2) (w : G l (D + 1) 0 0 mX2_take (zz ζ) 34 [aP 52, aI (h 57 0), aI (h 58 0), aI (h 58 0), aI 1] [] (hu h 52 2 (h 57 0)) (qV (zz ζ) Q)) : RtV l (D + 1) mX2_take (zz ζ) [aP 52] h Q := by
  refine RtV.of 4 pn_X2 [aP 52, aU, aU, aU, aU] rfl rfl ?_
  refine g_aload_n dX2_take_0 rfl ?_
  refine g_getR dX2_take_1 fl_X2_24 sh_52 (al_52 hn) (fun _ _ _ => rfl) rf_52_10 ?_
  refine g_iconst dX2_take_4 ?_
  refine g_iald dX2_take_5 sh_57 (al_57 hn) (Nat.le_of_ble_eq_true rfl) (by decide) ?_
  refine g_istore_n (ls' := [aP 52, aI (h 57 0), aU, aU, aU]) dX2_take_6 (Nat.le_of_ble_eq_true rfl) rfl rfl ?_
  refine g_aload_n dX2_take_7 rfl ?_
  refine g_getR dX2_take_8 fl_X2_27 sh_52 (al_52 hn) (fun _ _ _ => rfl) rf_52_11 ?_
  refine g_iconst dX2_take_11 ?_
  refine g_iald dX2_take_12 sh_58 (al_58 hn) (Nat.le_of_ble_eq_true rfl) (by decide) ?_
  refine g_istore_n (ls' := [aP 52, aI (h 57 0), aI (h 58 0), aU, aU]) dX2_take_13 (Nat.le_of_ble_eq_true rfl) rfl rfl ?_
  refine g_aload_n dX2_take_14 rfl ?_
  refine g_getR dX2_take_15 fl_X2_27 sh_52 (al_52 hn) (fun _ _ _ => rfl) rf_52_11 ?_
  refine g_iconst dX2_take_18 ?_
  refine g_iald dX2_take_19 sh_58 (al_58 hn) (Nat.le_of_ble_eq_true rfl) (by decide) ?_
  refine g_istore_n (ls' := [aP 52, aI (h 57 0), aI (h 58 0), aI (h 58 0), aU]) dX2_take_20 (Nat.le_of_ble_eq_true rfl) rfl rfl ?_
  refine g_aload_n dX2_take_21 rfl ?_
  refine g_aload_n dX2_take_22 rfl ?_
  refine g_getR dX2_take_23 fl_X2_24 sh_52 (al_52 hn) (fun _ _ _ => rfl) rf_52_10 ?_
  refine g_iconst dX2_take_26 ?_
  refine g_iald dX2_take_27 sh_57 (al_57 hn) (Nat.le_of_ble_eq_true rfl) (by decide) ?_
  refine g_putI (J := 2) dX2_take_28 fl_X2_62 sh_52 (al_52 hn) rfl rfl ?_
  refine g_iconst dX2_take_31 ?_
  refine g_istore (ls' := [aP 52, aI (h 57 0), aI (h 58 0), aI (h 58 0), aI 1]) dX2_take_32 (Nat.le_of_ble_eq_true rfl) rfl rfl ?_
  exact g_sub (ls' := [aP 52, aI (h 57 0), aI (h 58 0), aI (h 58 0), aI 1]) ⟨Or.inr rfl, Or.inr rfl, Or.inr rfl, Or.inr rfl, Or.inr rfl, trivial⟩ w
