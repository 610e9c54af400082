theorem b_X9_findOrder_2 {l : Launch} {D : Nat} {ζ : ZP} {h : HI} {Q : Int → HI → Prop} {x2 : Int} {wc : Nat} (hn : 144 ≤ ζ.2.2.2.2) (hw : isW wc) (w : (rg x2) ∧ (if 128 ≤ x2 then (RtV l D mX9_begin (zz ζ) [aP 91] h (fun h1 => RtI l D mX9_goesOn (zz ζ) [aP 91, aP wc, aI 0, aI 0] h1 (fun r2 h2 => (rg r2) ∧ (if ¬ r2 = 0 then (((0 : Int) ≤ 0 ∧ (0 : Int) ≤ 0 ∧ (0 : Int) ≤ (h2 wc 0) ∧ 0 + (h2 wc 0) ≤ 12 ∧ 0 + (h2 wc 0) ≤ 12) ∧ Q 1 (hcp (hu h2 91 0 (h2 wc 0)) 93 0 92 0 (h2 wc 0))) else (Q 0 h2))))) else ((0 ≤ x2 ∧ x2 < 128) ∧ G l (D + 1) 0 0 mX9_findOrder (zz ζ) 2 [aP 91, aP wc, aI (x2 + 1)] [] (hu h 96 x2 0) (qI (zz ζ) Q)))) : G l (D + 1) 0 0 mX9_findOrder (zz ζ) 2 [aP 91, aP wc, aI x2] [] h (qI (zz ζ) Q) := by
  refine g_iload_n dX9_findOrder_2 rfl ?_
  refine g_aload_n dX9_findOrder_3 rfl ?_
  refine g_getR dX9_findOrder_4 fl_X9_26 sh_91 (al_91 hn) (fun _ _ _ => rfl) rf_91_5 ?_
  refine g_alen (n := 128) dX9_findOrder_7 sh_96 (al_96 hn) (by decide) rfl ?_
  obtain ⟨o1, w⟩ := w
  refine g_cmp_ge (tgt := 24) dX9_findOrder_8 rfl o1 (by decide) ?_
  refine ite_imp (fun w => ?_) (fun w => ?_) w
  · refine g_aload_n dX9_findOrder_24 rfl ?_
    refine g_callVV (n := 0) (As := []) (st := []) dX9_findOrder_25 ml_X9_29 sh_91 rfl (al_91 hn) rfl rfl (Nat.le_of_ble_eq_true rfl) (RtV.mono w (fun h1 w => ?_))
    refine g_aload_n dX9_findOrder_28 rfl ?_
    refine g_aload_n dX9_findOrder_29 rfl ?_
    refine g_iconst dX9_findOrder_30 ?_
    refine g_iconst dX9_findOrder_31 ?_
    refine g_callVI (n := 3) (As := [aP wc, aI 0, aI 0]) (st := []) dX9_findOrder_32 ml_X9_32 sh_91 rfl (al_91 hn) rfl rfl (Nat.le_of_ble_eq_true rfl) (RtI.mono w (fun r2 h2 w => ?_))
    obtain ⟨o2, w⟩ := w
    refine g_if_ne (tgt := 40) dX9_findOrder_35 rfl o2 ?_
    refine ite_imp (fun w => ?_) (fun w => ?_) w
    · refine g_aload_n dX9_findOrder_40 rfl ?_
      refine g_aload_n dX9_findOrder_41 rfl ?_
      refine g_getI (J := 0) dX9_findOrder_42 fl_X9_36 (shw_0 hw) (alw_0 hw hn) (fun _ _ _ => rfl) rfl ?_
      refine g_putI (J := 0) dX9_findOrder_45 fl_X9_40 sh_91 (al_91 hn) rfl rfl ?_
      refine g_aload_n dX9_findOrder_48 rfl ?_
      refine g_getR dX9_findOrder_49 fl_X9_17 sh_91 (al_91 hn) (fun _ _ _ => rfl) rf_91_2 ?_
      refine g_iconst dX9_findOrder_52 ?_
      refine g_aload_n dX9_findOrder_53 rfl ?_
      refine g_getR dX9_findOrder_54 fl_X9_11 sh_91 (al_91 hn) (fun _ _ _ => rfl) rf_91_1 ?_
      refine g_iconst dX9_findOrder_57 ?_
      refine g_aload_n dX9_findOrder_58 rfl ?_
      refine g_getI (J := 0) dX9_findOrder_59 fl_X9_40 sh_91 (al_91 hn) (fun _ _ _ => rfl) rfl ?_
      obtain ⟨o3, w⟩ := w
      refine g_copy dX9_findOrder_62 cw_X9_41 (Nat.le_of_ble_eq_true rfl) sh_93 (al_93 hn) sh_92 (al_92 hn) (Nat.le_of_ble_eq_true rfl) (Nat.le_of_ble_eq_true rfl) o3 ?_
      refine g_iconst dX9_findOrder_65 ?_
      exact g_retZ dX9_findOrder_66 rfl (Or.inr rfl) w
    · refine g_iconst dX9_findOrder_38 ?_
      exact g_retZ dX9_findOrder_39 rfl (Or.inl rfl) w
  · refine g_aload_n dX9_findOrder_11 rfl ?_
    refine g_getR dX9_findOrder_12 fl_X9_26 sh_91 (al_91 hn) (fun _ _ _ => rfl) rf_91_5 ?_
    refine g_iload_n dX9_findOrder_15 rfl ?_
    refine g_iconst dX9_findOrder_16 ?_
    obtain ⟨o4, w⟩ := w
    refine g_iast dX9_findOrder_17 sh_96 (al_96 hn) (Nat.le_of_ble_eq_true rfl) o4 ?_
    refine g_iinc (ls' := [aP 91, aP wc, aI (x2 + 1)]) dX9_findOrder_18 rfl (Nat.le_of_ble_eq_true rfl) rfl rfl ?_
    refine g_goto (tgt := 2) dX9_findOrder_21 rfl ?_
    exact g_sub (ls' := [aP 91, aP wc, aI (x2 + 1)]) ⟨Or.inr rfl, Or.inr rfl, Or.inr rfl, trivial⟩ w
theorem e_X9_findOrder {l : Launch} {D : Nat} {ζ : ZP} {h : HI} {Q : Int → HI → Prop} {wc : Nat} (hn : 144 ≤ ζ.2.2.2.2) (hw : isW wc) (w : G l (D + 1) 0 0 mX9_findOrder (zz ζ) 2 [aP 91, aP wc, aI 0] [] h (qI (zz ζ) Q)) : RtI l (D + 1) mX9_findOrder (zz ζ) [aP 91, aP wc] h Q := by
  refine RtI.of 1 pn_X9 [aP 91, aP wc, aU] rfl rfl ?_
  refine g_iconst dX9_findOrder_0 ?_
  refine g_istore_n (ls' := [aP 91, aP wc, aI 0]) dX9_findOrder_1 (Nat.le_of_ble_eq_true rfl) rfl rfl ?_
  exact g_sub (ls' := [aP 91, aP wc, aI 0]) ⟨Or.inr rfl, Or.inr rfl, Or.inr rfl, trivial⟩ w
theorem b_X9_goodSteps_10 {l : Launch} {D : Nat} {ζ : ZP} {h : HI} {Q : Int → HI → Prop} {x3 x4 x5 : Int} {wc : Nat} (hn : 144 ≤ ζ.2.2.2.2) (hw : isW wc) (w : (rg x5) ∧ (rg x3) ∧ (if x3 ≤ x5 then (Q x3 h) else (RtI l D mX7_at (zz ζ) [aP 1, aI x5] h (fun r1 h1 => (rg r1) ∧ (if r1 < 0 then (Q x5 h1) else ((rg (h1 wc 0)) ∧ (if (h1 wc 0) ≤ r1 then (Q x5 h1) else (RtI l D mX9_isNext (zz ζ) [aP wc, aI x4, aI r1] h1 (fun r2 h2 => (rg r2) ∧ (if r2 = 0 then (Q x5 h2) else (RtI l D mX9_weld (zz ζ) [aP 91, aP wc, aI x5, aI r1] h2 (fun r3 h3 => (rg r3) ∧ (if ¬ r3 = 0 then (G l (D + 1) 0 0 mX9_goodSteps (zz ζ) 10 [aP 91, aP wc, aP 1, aI x3, aI (bor x4 (bshl 1 r1)), aI (x5 + 1), aU] [] h3 (qI (zz ζ) Q)) else (Q x5 h3)))))))))))))) : G l (D + 1) 0 0 mX9_goodSteps (zz ζ) 10 [aP 91, aP wc, aP 1, aI x3, aI x4, aI x5, aU] [] h (qI (zz ζ) Q) := by
  refine g_iload dX9_goodSteps_10 rfl ?_
  refine g_iload_n dX9_goodSteps_12 rfl ?_
  obtain ⟨o1, w⟩ := w
  obtain ⟨o2, w⟩ := w
  refine g_cmp_ge (tgt := 79) dX9_goodSteps_13 rfl o1 o2 ?_
  refine ite_imp (fun w => ?_) (fun w => ?_) w
  · refine g_iload_n dX9_goodSteps_79 rfl ?_
    exact g_retI dX9_goodSteps_80 rfl w
  · refine g_aload_n dX9_goodSteps_16 rfl ?_
    refine g_iload dX9_goodSteps_17 rfl ?_
    refine g_callVI (n := 1) (As := [aI x5]) (st := []) dX9_goodSteps_19 ml_X9_47 sh_1 rfl (al_1 hn) rfl rfl (Nat.le_of_ble_eq_true rfl) (RtI.mono w (fun r1 h1 w => ?_))
    refine g_istore (ls' := [aP 91, aP wc, aP 1, aI x3, aI x4, aI x5, aI r1]) dX9_goodSteps_22 (Nat.le_of_ble_eq_true rfl) rfl rfl ?_
    refine g_iload dX9_goodSteps_24 rfl ?_
    obtain ⟨o3, w⟩ := w
    refine g_if_lt (tgt := 61) dX9_goodSteps_26 rfl o3 ?_
    refine ite_imp (fun w => ?_) (fun w => ?_) w
    · refine g_iload dX9_goodSteps_61 rfl ?_
      exact g_retI dX9_goodSteps_63 rfl w
    · refine g_iload dX9_goodSteps_29 rfl ?_
      refine g_aload_n dX9_goodSteps_31 rfl ?_
      refine g_getI (J := 0) dX9_goodSteps_32 fl_X9_36 (shw_0 hw) (alw_0 hw hn) (fun _ _ _ => rfl) rfl ?_
      obtain ⟨o4, w⟩ := w
      refine g_cmp_ge (tgt := 61) dX9_goodSteps_35 rfl o3 o4 ?_
      refine ite_imp (fun w => ?_) (fun w => ?_) w
      · refine g_iload dX9_goodSteps_61 rfl ?_
        exact g_retI dX9_goodSteps_63 rfl w
      · refine g_aload_n dX9_goodSteps_38 rfl ?_
        refine g_iload dX9_goodSteps_39 rfl ?_
        refine g_iload dX9_goodSteps_41 rfl ?_
        refine g_callSI (n := 3) (As := [aP wc, aI x4, aI r1]) (st := []) dX9_goodSteps_43 ml_X9_53 rfl rfl (Nat.le_of_ble_eq_true rfl) rfl (RtI.mono w (fun r2 h2 w => ?_))
        obtain ⟨o5, w⟩ := w
        refine g_if_eq (tgt := 61) dX9_goodSteps_46 rfl o5 ?_
        refine ite_imp (fun w => ?_) (fun w => ?_) w
        · refine g_iload dX9_goodSteps_61 rfl ?_
          exact g_retI dX9_goodSteps_63 rfl w
        · refine g_aload_n dX9_goodSteps_49 rfl ?_
          refine g_aload_n dX9_goodSteps_50 rfl ?_
          refine g_iload dX9_goodSteps_51 rfl ?_
          refine g_iload dX9_goodSteps_53 rfl ?_
          refine g_callVI (n := 3) (As := [aP wc, aI x5, aI r1]) (st := []) dX9_goodSteps_55 ml_X9_56 sh_91 rfl (al_91 hn) rfl rfl (Nat.le_of_ble_eq_true rfl) (RtI.mono w (fun r3 h3 w => ?_))
          obtain ⟨o6, w⟩ := w
          refine g_if_ne (tgt := 64) dX9_goodSteps_58 rfl o6 ?_
          refine ite_imp (fun w => ?_) (fun w => ?_) w
          · refine g_iload dX9_goodSteps_64 rfl ?_
            refine g_iconst dX9_goodSteps_66 ?_
            refine g_iload dX9_goodSteps_67 rfl ?_
            refine g_ishl dX9_goodSteps_69 ?_
            refine g_ior dX9_goodSteps_70 ?_
            refine g_istore (ls' := [aP 91, aP wc, aP 1, aI x3, aI (bor x4 (bshl 1 r1)), aI x5, aI r1]) dX9_goodSteps_71 (Nat.le_of_ble_eq_true rfl) rfl rfl ?_
            refine g_iinc (ls' := [aP 91, aP wc, aP 1, aI x3, aI (bor x4 (bshl 1 r1)), aI (x5 + 1), aI r1]) dX9_goodSteps_73 rfl (Nat.le_of_ble_eq_true rfl) rfl rfl ?_
            refine g_goto (tgt := 10) dX9_goodSteps_76 rfl ?_
            exact g_sub (ls' := [aP 91, aP wc, aP 1, aI x3, aI (bor x4 (bshl 1 r1)), aI (x5 + 1), aU]) ⟨Or.inr rfl, Or.inr rfl, Or.inr rfl, Or.inr rfl, Or.inr rfl, Or.inr rfl, Or.inl rfl, trivial⟩ w
          · refine g_iload dX9_goodSteps_61 rfl ?_
            exact g_retI dX9_goodSteps_63 rfl w
theorem e_X9_goodSteps {l : Launch} {D : Nat} {ζ : ZP} {h : HI} {Q : Int → HI → Prop} {x3 : Int} {wc : Nat} (hn : 144 ≤ ζ.2.2.2.2) (hw : isW wc) (w : RtV l D mX9_begin (zz ζ) [aP 91] h (fun h1 => G l (D + 1) 0 0 mX9_goodSteps (zz ζ) 10 [aP 91, aP wc, aP 1, aI x3, aI 0, aI 0, aU] [] h1 (qI (zz ζ) Q))) : RtI l (D + 1) mX9_goodSteps (zz ζ) [aP 91, aP wc, aP 1, aI x3] h Q := by
  refine RtI.of 3 pn_X9 [aP 91, aP wc, aP 1, aI x3, aU, aU, aU] rfl rfl ?_
  refine g_aload_n dX9_goodSteps_0 rfl ?_
  refine g_callVV (n := 0) (As := []) (st := []) dX9_goodSteps_1 ml_X9_29 sh_91 rfl (al_91 hn) rfl rfl (Nat.le_of_ble_eq_true rfl) (RtV.mono w (fun h1 w => ?_))
  refine g_iconst dX9_goodSteps_4 ?_
  refine g_istore (ls' := [aP 91, aP wc, aP 1, aI x3, aI 0, aU, aU]) dX9_goodSteps_5 (Nat.le_of_ble_eq_true rfl) rfl rfl ?_
  refine g_iconst dX9_goodSteps_7 ?_
  refine g_istore (ls' := [aP 91, aP wc, aP 1, aI x3, aI 0, aI 0, aU]) dX9_goodSteps_8 (Nat.le_of_ble_eq_true rfl) rfl rfl ?_
  exact g_sub (ls' := [aP 91, aP wc, aP 1, aI x3, aI 0, aI 0, aU]) ⟨Or.inr rfl, Or.inr rfl, Or.inr rfl, Or.inr rfl, Or.inr rfl, Or.inr rfl, Or.inl rfl, trivial⟩ w
theorem b_X9_begin_2 {l : Launch} {D : Nat} {ζ : ZP} {h : HI} {Q : HI → Prop} {x1 : Int} (hn : 144 ≤ ζ.2.2.2.2) (w : (rg x1) ∧ (if 60 ≤ x1 then (Q h) else ((0 ≤ x1 ∧ x1 < 780) ∧ G l (D + 1) 0 0 mX9_begin (zz ζ) 2 [aP 91, aI (x1 + 1)] [] (hu (hu h 94 x1 x1) 95 x1 0) (qV (zz ζ) Q)))) : G l (D + 1) 0 0 mX9_begin (zz ζ) 2 [aP 91, aI x1] [] h (qV (zz ζ) Q) := by
  refine g_iload_n dX9_begin_2 rfl ?_
  refine g_bipush dX9_begin_3 rfl ?_
  obtain ⟨o1, w⟩ := w
  refine g_cmp_ge (tgt := 28) dX9_begin_5 rfl o1 (by decide) ?_
  refine ite_imp (fun w => ?_) (fun w => ?_) w
  · exact g_retV dX9_begin_28 rfl w
  · refine g_aload_n dX9_begin_8 rfl ?_
    refine g_getR dX9_begin_9 fl_X9_20 sh_91 (al_91 hn) (fun _ _ _ => rfl) rf_91_3 ?_
    refine g_iload_n dX9_begin_12 rfl ?_
    refine g_iload_n dX9_begin_13 rfl ?_
    obtain ⟨o2, w⟩ := w
    refine g_iast dX9_begin_14 sh_94 (al_94 hn) (Nat.le_of_ble_eq_true rfl) o2 ?_
    refine g_aload_n dX9_begin_15 rfl ?_
    refine g_getR dX9_begin_16 fl_X9_23 sh_91 (al_91 hn) (fun _ _ _ => rfl) rf_91_4 ?_
    refine g_iload_n dX9_begin_19 rfl ?_
    refine g_iconst dX9_begin_20 ?_
    refine g_iast dX9_begin_21 sh_95 (al_95 hn) (Nat.le_of_ble_eq_true rfl) o2 ?_
    refine g_iinc (ls' := [aP 91, aI (x1 + 1)]) dX9_begin_22 rfl (Nat.le_of_ble_eq_true rfl) rfl rfl ?_
    refine g_goto (tgt := 2) dX9_begin_25 rfl ?_
    exact g_sub (ls' := [aP 91, aI (x1 + 1)]) ⟨Or.inr rfl, Or.inr rfl, trivial⟩ w
theorem e_X9_begin {l : Launch} {D : Nat} {ζ : ZP} {h : HI} {Q : HI → Prop} (hn : 144 ≤ ζ.2.2.2.2) (w : G l (D + 1) 0 0 mX9_begin (zz ζ) 2 [aP 91, aI 0] [] h (qV (zz ζ) Q)) : RtV l (D + 1) mX9_begin (zz ζ) [aP 91] h Q := by
  refine RtV.of 1 pn_X9 [aP 91, aU] rfl rfl ?_
  refine g_iconst dX9_begin_0 ?_
  refine g_istore_n (ls' := [aP 91, aI 0]) dX9_begin_1 (Nat.le_of_ble_eq_true rfl) rfl rfl ?_
  exact g_sub (ls' := [aP 91, aI 0]) ⟨Or.inr rfl, Or.inr rfl, trivial⟩ w
theorem e_X9_isNext {l : Launch} {D : Nat} {ζ : ZP} {h : HI} {Q : Int → HI → Prop} {x1 x2 : Int} {wc : Nat} (hn : 144 ≤ ζ.2.2.2.2) (hw : isW wc) (w : (rg (band (bshr x1 x2) 1)) ∧ (if ¬ (band (bshr x1 x2) 1) = 0 then (Q 0 h) else ((0 ≤ x2 ∧ x2 < 12) ∧ (rg (band (h (wc + 3) x2) (bxor x1 (-1)))) ∧ (if ¬ (band (h (wc + 3) x2) (bxor x1 (-1))) = 0 then (Q 0 h) else (Q 1 h))))) : RtI l (D + 1) mX9_isNext (zz ζ) [aP wc, aI x1, aI x2] h Q := by
  refine RtI.of 0 pn_X9 [aP wc, aI x1, aI x2] rfl rfl ?_
  refine g_iload_n dX9_isNext_0 rfl ?_
  refine g_iload_n dX9_isNext_1 rfl ?_
  refine g_ishr dX9_isNext_2 ?_
  refine g_iconst dX9_isNext_3 ?_
  refine g_iand dX9_isNext_4 ?_
  obtain ⟨o1, w⟩ := w
  refine g_if_ne (tgt := 25) dX9_isNext_5 rfl o1 ?_
  refine ite_imp (fun w => ?_) (fun w => ?_) w
  · refine g_iconst dX9_isNext_25 ?_
    exact g_retZ dX9_isNext_26 rfl (Or.inl rfl) w
  · refine g_aload_n dX9_isNext_8 rfl ?_
    refine g_getR dX9_isNext_9 fl_X9_59 (shw_0 hw) (alw_0 hw hn) (fun _ _ _ => rfl) (rfw_3 hw) ?_
    refine g_iload_n dX9_isNext_12 rfl ?_
    obtain ⟨o2, w⟩ := w
    refine g_iald dX9_isNext_13 (shw_3 hw) (alw_3 hw hn) (Nat.le_of_ble_eq_true rfl) o2 ?_
    refine g_iload_n dX9_isNext_14 rfl ?_
    refine g_iconst dX9_isNext_15 ?_
    refine g_ixor dX9_isNext_16 ?_
    refine g_iand dX9_isNext_17 ?_
    obtain ⟨o3, w⟩ := w
    refine g_if_ne (tgt := 25) dX9_isNext_18 rfl o3 ?_
    refine ite_imp (fun w => ?_) (fun w => ?_) w
    · refine g_iconst dX9_isNext_25 ?_
      exact g_retZ dX9_isNext_26 rfl (Or.inl rfl) w
    · refine g_iconst dX9_isNext_21 ?_
      refine g_goto (tgt := 26) dX9_isNext_22 rfl ?_
      exact g_retZ dX9_isNext_26 rfl (Or.inr rfl) w
theorem b_X9_goesOn_13 {l : Launch} {D : Nat} {ζ : ZP} {h : HI} {Q : Int → HI → Prop} {x2 x3 x4 : Int} {wc : Nat} (hn : 144 ≤ ζ.2.2.2.2) (hw : isW wc) (w : (rg x4) ∧ (rg (h wc 0)) ∧ (if (h wc 0) ≤ x4 then ((0 ≤ (bshr x2 5) ∧ (bshr x2 5) < 128) ∧ Q 0 (hu h 96 (bshr x2 5) (bor (h 96 (bshr x2 5)) (bshl 1 (band x2 31))))) else (RtI l D mX9_isNext (zz ζ) [aP wc, aI x2, aI x4] h (fun r1 h1 => (rg r1) ∧ (if r1 = 0 then (G l (D + 1) 0 0 mX9_goesOn (zz ζ) 13 [aP 91, aP wc, aI x2, aI x3, aI (x4 + 1), aU] [] h1 (qI (zz ζ) Q)) else (RtI l D mX9_isDead (zz ζ) [aP 91, aI (bor x2 (bshl 1 x4))] h1 (fun r2 h2 => (rg r2) ∧ (if ¬ r2 = 0 then (G l (D + 1) 0 0 mX9_goesOn (zz ζ) 13 [aP 91, aP wc, aI x2, aI x3, aI (x4 + 1), aU] [] h2 (qI (zz ζ) Q)) else (RtI l D mX9_weld (zz ζ) [aP 91, aP wc, aI x3, aI x4] h2 (fun r3 h3 => (rg r3) ∧ (if r3 = 0 then (G l (D + 1) 0 0 mX9_goesOn (zz ζ) 13 [aP 91, aP wc, aI x2, aI x3, aI (x4 + 1), aU] [] h3 (qI (zz ζ) Q)) else (RtI l D mX9_spoilsRest (zz ζ) [aP 91, aP wc, aI (bor x2 (bshl 1 x4)), aI (x3 + 1)] h3 (fun r4 h4 => (rg r4) ∧ (if ¬ r4 = 0 then (G l (D + 1) 0 0 mX9_goesOn (zz ζ) 13 [aP 91, aP wc, aI x2, aI x3, aI (x4 + 1), aU] [] h4 (qI (zz ζ) Q)) else ((0 ≤ x3 ∧ x3 < 12) ∧ RtI l D mX9_goesOn (zz ζ) [aP 91, aP wc, aI (bor x2 (bshl 1 x4)), aI (x3 + 1)] (hu h4 93 x3 x4) (fun r5 h5 => (rg r5) ∧ (if r5 = 0 then (G l (D + 1) 0 0 mX9_goesOn (zz ζ) 13 [aP 91, aP wc, aI x2, aI x3, aI (x4 + 1), aU] [] h5 (qI (zz ζ) Q)) else (Q 1 h5)))))))))))))))))) : G l (D + 1) 0 0 mX9_goesOn (zz ζ) 13 [aP 91, aP wc, aI x2, aI x3, aI x4, aU] [] h (qI (zz ζ) Q) := by
  refine g_iload dX9_goesOn_13 rfl ?_
  refine g_aload_n dX9_goesOn_15 rfl ?_
  refine g_getI (J := 0) dX9_goesOn_16 fl_X9_36 (shw_0 hw) (alw_0 hw hn) (fun _ _ _ => rfl) rfl ?_
  obtain ⟨o1, w⟩ := w
  obtain ⟨o2, w⟩ := w
  refine g_cmp_ge (tgt := 102) dX9_goesOn_19 rfl o1 o2 ?_
  refine ite_imp (fun w => ?_) (fun w => ?_) w
  · refine g_aload_n dX9_goesOn_102 rfl ?_
    refine g_getR dX9_goesOn_103 fl_X9_26 sh_91 (al_91 hn) (fun _ _ _ => rfl) rf_91_5 ?_
    refine g_iload_n dX9_goesOn_106 rfl ?_
    refine g_iconst dX9_goesOn_107 ?_
    refine g_ishr dX9_goesOn_108 ?_
    refine g_dup2 dX9_goesOn_109 rfl rfl ?_
    obtain ⟨o3, w⟩ := w
    refine g_iald dX9_goesOn_110 sh_96 (al_96 hn) (Nat.le_of_ble_eq_true rfl) o3 ?_
    refine g_iconst dX9_goesOn_111 ?_
    refine g_iload_n dX9_goesOn_112 rfl ?_
    refine g_bipush dX9_goesOn_113 rfl ?_
    refine g_iand dX9_goesOn_115 ?_
    refine g_ishl dX9_goesOn_116 ?_
    refine g_ior dX9_goesOn_117 ?_
    refine g_iast dX9_goesOn_118 sh_96 (al_96 hn) (Nat.le_of_ble_eq_true rfl) o3 ?_
    refine g_iconst dX9_goesOn_119 ?_
    exact g_retZ dX9_goesOn_120 rfl (Or.inl rfl) w
  · refine g_iload_n dX9_goesOn_22 rfl ?_
    refine g_iconst dX9_goesOn_23 ?_
    refine g_iload dX9_goesOn_24 rfl ?_
    refine g_ishl dX9_goesOn_26 ?_
    refine g_ior dX9_goesOn_27 ?_
    refine g_istore (ls' := [aP 91, aP wc, aI x2, aI x3, aI x4, aI (bor x2 (bshl 1 x4))]) dX9_goesOn_28 (Nat.le_of_ble_eq_true rfl) rfl rfl ?_
    refine g_aload_n dX9_goesOn_30 rfl ?_
    refine g_iload_n dX9_goesOn_31 rfl ?_
    refine g_iload dX9_goesOn_32 rfl ?_
    refine g_callSI (n := 3) (As := [aP wc, aI x2, aI x4]) (st := []) dX9_goesOn_34 ml_X9_53 rfl rfl (Nat.le_of_ble_eq_true rfl) rfl (RtI.mono w (fun r1 h1 w => ?_))
    obtain ⟨o4, w⟩ := w
    refine g_if_eq (tgt := 96) dX9_goesOn_37 rfl o4 ?_
    refine ite_imp (fun w => ?_) (fun w => ?_) w
    · refine g_iinc (ls' := [aP 91, aP wc, aI x2, aI x3, aI (x4 + 1), aI (bor x2 (bshl 1 x4))]) dX9_goesOn_96 rfl (Nat.le_of_ble_eq_true rfl) rfl rfl ?_
      refine g_goto (tgt := 13) dX9_goesOn_99 rfl ?_
      exact g_sub (ls' := [aP 91, aP wc, aI x2, aI x3, aI (x4 + 1), aU]) ⟨Or.inr rfl, Or.inr rfl, Or.inr rfl, Or.inr rfl, Or.inr rfl, Or.inl rfl, trivial⟩ w
    · refine g_aload_n dX9_goesOn_40 rfl ?_
      refine g_iload dX9_goesOn_41 rfl ?_
      refine g_callVI (n := 1) (As := [aI (bor x2 (bshl 1 x4))]) (st := []) dX9_goesOn_43 ml_X9_62 sh_91 rfl (al_91 hn) rfl rfl (Nat.le_of_ble_eq_true rfl) (RtI.mono w (fun r2 h2 w => ?_))
      obtain ⟨o5, w⟩ := w
      refine g_if_ne (tgt := 96) dX9_goesOn_46 rfl o5 ?_
      refine ite_imp (fun w => ?_) (fun w => ?_) w
      · refine g_iinc (ls' := [aP 91, aP wc, aI x2, aI x3, aI (x4 + 1), aI (bor x2 (bshl 1 x4))]) dX9_goesOn_96 rfl (Nat.le_of_ble_eq_true rfl) rfl rfl ?_
        refine g_goto (tgt := 13) dX9_goesOn_99 rfl ?_
        exact g_sub (ls' := [aP 91, aP wc, aI x2, aI x3, aI (x4 + 1), aU]) ⟨Or.inr rfl, Or.inr rfl, Or.inr rfl, Or.inr rfl, Or.inr rfl, Or.inl rfl, trivial⟩ w
      · refine g_aload_n dX9_goesOn_49 rfl ?_
        refine g_aload_n dX9_goesOn_50 rfl ?_
        refine g_iload_n dX9_goesOn_51 rfl ?_
        refine g_iload dX9_goesOn_52 rfl ?_
        refine g_callVI (n := 3) (As := [aP wc, aI x3, aI x4]) (st := []) dX9_goesOn_54 ml_X9_56 sh_91 rfl (al_91 hn) rfl rfl (Nat.le_of_ble_eq_true rfl) (RtI.mono w (fun r3 h3 w => ?_))
        obtain ⟨o6, w⟩ := w
        refine g_if_eq (tgt := 96) dX9_goesOn_57 rfl o6 ?_
        refine ite_imp (fun w => ?_) (fun w => ?_) w
        · refine g_iinc (ls' := [aP 91, aP wc, aI x2, aI x3, aI (x4 + 1), aI (bor x2 (bshl 1 x4))]) dX9_goesOn_96 rfl (Nat.le_of_ble_eq_true rfl) rfl rfl ?_
          refine g_goto (tgt := 13) dX9_goesOn_99 rfl ?_
          exact g_sub (ls' := [aP 91, aP wc, aI x2, aI x3, aI (x4 + 1), aU]) ⟨Or.inr rfl, Or.inr rfl, Or.inr rfl, Or.inr rfl, Or.inr rfl, Or.inl rfl, trivial⟩ w
        · refine g_aload_n dX9_goesOn_60 rfl ?_
          refine g_aload_n dX9_goesOn_61 rfl ?_
          refine g_iload dX9_goesOn_62 rfl ?_
          refine g_iload_n dX9_goesOn_64 rfl ?_
          refine g_iconst dX9_goesOn_65 ?_
          refine g_iadd dX9_goesOn_66 ?_
          refine g_callVI (n := 3) (As := [aP wc, aI (bor x2 (bshl 1 x4)), aI (x3 + 1)]) (st := []) dX9_goesOn_67 ml_X9_66 sh_91 rfl (al_91 hn) rfl rfl (Nat.le_of_ble_eq_true rfl) (RtI.mono w (fun r4 h4 w => ?_))
          obtain ⟨o7, w⟩ := w
          refine g_if_ne (tgt := 96) dX9_goesOn_70 rfl o7 ?_
          refine ite_imp (fun w => ?_) (fun w => ?_) w
          · refine g_iinc (ls' := [aP 91, aP wc, aI x2, aI x3, aI (x4 + 1), aI (bor x2 (bshl 1 x4))]) dX9_goesOn_96 rfl (Nat.le_of_ble_eq_true rfl) rfl rfl ?_
            refine g_goto (tgt := 13) dX9_goesOn_99 rfl ?_
            exact g_sub (ls' := [aP 91, aP wc, aI x2, aI x3, aI (x4 + 1), aU]) ⟨Or.inr rfl, Or.inr rfl, Or.inr rfl, Or.inr rfl, Or.inr rfl, Or.inl rfl, trivial⟩ w
          · refine g_aload_n dX9_goesOn_73 rfl ?_
            refine g_getR dX9_goesOn_74 fl_X9_17 sh_91 (al_91 hn) (fun _ _ _ => rfl) rf_91_2 ?_
            refine g_iload_n dX9_goesOn_77 rfl ?_
            refine g_iload dX9_goesOn_78 rfl ?_
            obtain ⟨o8, w⟩ := w
            refine g_iast dX9_goesOn_80 sh_93 (al_93 hn) (Nat.le_of_ble_eq_true rfl) o8 ?_
            refine g_aload_n dX9_goesOn_81 rfl ?_
            refine g_aload_n dX9_goesOn_82 rfl ?_
            refine g_iload dX9_goesOn_83 rfl ?_
            refine g_iload_n dX9_goesOn_85 rfl ?_
            refine g_iconst dX9_goesOn_86 ?_
            refine g_iadd dX9_goesOn_87 ?_
            refine g_callVI (n := 3) (As := [aP wc, aI (bor x2 (bshl 1 x4)), aI (x3 + 1)]) (st := []) dX9_goesOn_88 ml_X9_32 sh_91 rfl (al_91 hn) rfl rfl (Nat.le_of_ble_eq_true rfl) (RtI.mono w (fun r5 h5 w => ?_))
            obtain ⟨o9, w⟩ := w
            refine g_if_eq (tgt := 96) dX9_goesOn_91 rfl o9 ?_
            refine ite_imp (fun w => ?_) (fun w => ?_) w
            · refine g_iinc (ls' := [aP 91, aP wc, aI x2, aI x3, aI (x4 + 1), aI (bor x2 (bshl 1 x4))]) dX9_goesOn_96 rfl (Nat.le_of_ble_eq_true rfl) rfl rfl ?_
              refine g_goto (tgt := 13) dX9_goesOn_99 rfl ?_
              exact g_sub (ls' := [aP 91, aP wc, aI x2, aI x3, aI (x4 + 1), aU]) ⟨Or.inr rfl, Or.inr rfl, Or.inr rfl, Or.inr rfl, Or.inr rfl, Or.inl rfl, trivial⟩ w
            · refine g_iconst dX9_goesOn_94 ?_
              exact g_retZ dX9_goesOn_95 rfl (Or.inr rfl) w
theorem e_X9_goesOn {l : Launch} {D : Nat} {ζ : ZP} {h : HI} {Q : Int → HI → Prop} {x2 x3 : Int} {wc : Nat} (hn : 144 ≤ ζ.2.2.2.2) (hw : isW wc) (w : (rg x3) ∧ (rg (h wc 0)) ∧ (if x3 < (h wc 0) then (G l (D + 1) 0 0 mX9_goesOn (zz ζ) 13 [aP 91, aP wc, aI x2, aI x3, aI 0, aU] [] h (qI (zz ζ) Q)) else (Q 1 h))) : RtI l (D + 1) mX9_goesOn (zz ζ) [aP 91, aP wc, aI x2, aI x3] h Q := by
  refine RtI.of 2 pn_X9 [aP 91, aP wc, aI x2, aI x3, aU, aU] rfl rfl ?_
  refine g_iload_n dX9_goesOn_0 rfl ?_
  refine g_aload_n dX9_goesOn_1 rfl ?_
  refine g_getI (J := 0) dX9_goesOn_2 fl_X9_36 (shw_0 hw) (alw_0 hw hn) (fun _ _ _ => rfl) rfl ?_
  obtain ⟨o1, w⟩ := w
  obtain ⟨o2, w⟩ := w
  refine g_cmp_lt (tgt := 10) dX9_goesOn_5 rfl o1 o2 ?_
  refine ite_imp (fun w => ?_) (fun w => ?_) w
  · refine g_iconst dX9_goesOn_10 ?_
    refine g_istore (ls' := [aP 91, aP wc, aI x2, aI x3, aI 0, aU]) dX9_goesOn_11 (Nat.le_of_ble_eq_true rfl) rfl rfl ?_
    exact g_sub (ls' := [aP 91, aP wc, aI x2, aI x3, aI 0, aU]) ⟨Or.inr rfl, Or.inr rfl, Or.inr rfl, Or.inr rfl, Or.inr rfl, Or.inl rfl, trivial⟩ w
  · refine g_iconst dX9_goesOn_8 ?_
    exact g_retZ dX9_goesOn_9 rfl (Or.inr rfl) w
theorem e_X9_isDead {l : Launch} {D : Nat} {ζ : ZP} {h : HI} {Q : Int → HI → Prop} {x1 : Int} (hn : 144 ≤ ζ.2.2.2.2) (w : (0 ≤ (bshr x1 5) ∧ (bshr x1 5) < 128) ∧ (rg (band (bshr (h 96 (bshr x1 5)) (band x1 31)) 1)) ∧ (if (band (bshr (h 96 (bshr x1 5)) (band x1 31)) 1) = 0 then (Q 0 h) else (Q 1 h))) : RtI l (D + 1) mX9_isDead (zz ζ) [aP 91, aI x1] h Q := by
  refine RtI.of 0 pn_X9 [aP 91, aI x1] rfl rfl ?_
  refine g_aload_n dX9_isDead_0 rfl ?_
  refine g_getR dX9_isDead_1 fl_X9_26 sh_91 (al_91 hn) (fun _ _ _ => rfl) rf_91_5 ?_
  refine g_iload_n dX9_isDead_4 rfl ?_
  refine g_iconst dX9_isDead_5 ?_
  refine g_ishr dX9_isDead_6 ?_
  obtain ⟨o1, w⟩ := w
  refine g_iald dX9_isDead_7 sh_96 (al_96 hn) (Nat.le_of_ble_eq_true rfl) o1 ?_
  refine g_iload_n dX9_isDead_8 rfl ?_
  refine g_bipush dX9_isDead_9 rfl ?_
  refine g_iand dX9_isDead_11 ?_
  refine g_ishr dX9_isDead_12 ?_
  refine g_iconst dX9_isDead_13 ?_
  refine g_iand dX9_isDead_14 ?_
  obtain ⟨o2, w⟩ := w
  refine g_if_eq (tgt := 22) dX9_isDead_15 rfl o2 ?_
  refine ite_imp (fun w => ?_) (fun w => ?_) w
  · refine g_iconst dX9_isDead_22 ?_
    exact g_retZ dX9_isDead_23 rfl (Or.inl rfl) w
  · refine g_iconst dX9_isDead_18 ?_
    refine g_goto (tgt := 23) dX9_isDead_19 rfl ?_
    exact g_retZ dX9_isDead_23 rfl (Or.inr rfl) w
theorem b_X9_spoilsRest_3 {l : Launch} {D : Nat} {ζ : ZP} {h : HI} {Q : Int → HI → Prop} {x2 x3 x4 : Int} {wc : Nat} (hn : 144 ≤ ζ.2.2.2.2) (hw : isW wc) (w : (rg x4) ∧ (rg (h wc 0)) ∧ (if (h wc 0) ≤ x4 then (Q 0 h) else ((rg (band (bshr x2 x4) 1)) ∧ (if ¬ (band (bshr x2 x4) 1) = 0 then (G l (D + 1) 0 0 mX9_spoilsRest (zz ζ) 3 [aP 91, aP wc, aI x2, aI x3, aI (x4 + 1)] [] h (qI (zz ζ) Q)) else (RtI l D mX9_shorts (zz ζ) [aP 91, aP wc, aI x3, aI x4] h (fun r1 h1 => (rg r1) ∧ (if r1 = 0 then (G l (D + 1) 0 0 mX9_spoilsRest (zz ζ) 3 [aP 91, aP wc, aI x2, aI x3, aI (x4 + 1)] [] h1 (qI (zz ζ) Q)) else (Q 1 h1)))))))) : G l (D + 1) 0 0 mX9_spoilsRest (zz ζ) 3 [aP 91, aP wc, aI x2, aI x3, aI x4] [] h (qI (zz ζ) Q) := by
  refine g_iload dX9_spoilsRest_3 rfl ?_
  refine g_aload_n dX9_spoilsRest_5 rfl ?_
  refine g_getI (J := 0) dX9_spoilsRest_6 fl_X9_36 (shw_0 hw) (alw_0 hw hn) (fun _ _ _ => rfl) rfl ?_
  obtain ⟨o1, w⟩ := w
  obtain ⟨o2, w⟩ := w
  refine g_cmp_ge (tgt := 40) dX9_spoilsRest_9 rfl o1 o2 ?_
  refine ite_imp (fun w => ?_) (fun w => ?_) w
  · refine g_iconst dX9_spoilsRest_40 ?_
    exact g_retZ dX9_spoilsRest_41 rfl (Or.inl rfl) w
  · refine g_iload_n dX9_spoilsRest_12 rfl ?_
    refine g_iload dX9_spoilsRest_13 rfl ?_
    refine g_ishr dX9_spoilsRest_15 ?_
    refine g_iconst dX9_spoilsRest_16 ?_
    refine g_iand dX9_spoilsRest_17 ?_
    obtain ⟨o3, w⟩ := w
    refine g_if_ne (tgt := 34) dX9_spoilsRest_18 rfl o3 ?_
    refine ite_imp (fun w => ?_) (fun w => ?_) w
    · refine g_iinc (ls' := [aP 91, aP wc, aI x2, aI x3, aI (x4 + 1)]) dX9_spoilsRest_34 rfl (Nat.le_of_ble_eq_true rfl) rfl rfl ?_
      refine g_goto (tgt := 3) dX9_spoilsRest_37 rfl ?_
      exact g_sub (ls' := [aP 91, aP wc, aI x2, aI x3, aI (x4 + 1)]) ⟨Or.inr rfl, Or.inr rfl, Or.inr rfl, Or.inr rfl, Or.inr rfl, trivial⟩ w
    · refine g_aload_n dX9_spoilsRest_21 rfl ?_
      refine g_aload_n dX9_spoilsRest_22 rfl ?_
      refine g_iload_n dX9_spoilsRest_23 rfl ?_
      refine g_iload dX9_spoilsRest_24 rfl ?_
      refine g_callVI (n := 3) (As := [aP wc, aI x3, aI x4]) (st := []) dX9_spoilsRest_26 ml_X9_69 sh_91 rfl (al_91 hn) rfl rfl (Nat.le_of_ble_eq_true rfl) (RtI.mono w (fun r1 h1 w => ?_))
      obtain ⟨o4, w⟩ := w
      refine g_if_eq (tgt := 34) dX9_spoilsRest_29 rfl o4 ?_
      refine ite_imp (fun w => ?_) (fun w => ?_) w
      · refine g_iinc (ls' := [aP 91, aP wc, aI x2, aI x3, aI (x4 + 1)]) dX9_spoilsRest_34 rfl (Nat.le_of_ble_eq_true rfl) rfl rfl ?_
        refine g_goto (tgt := 3) dX9_spoilsRest_37 rfl ?_
        exact g_sub (ls' := [aP 91, aP wc, aI x2, aI x3, aI (x4 + 1)]) ⟨Or.inr rfl, Or.inr rfl, Or.inr rfl, Or.inr rfl, Or.inr rfl, trivial⟩ w
      · refine g_iconst dX9_spoilsRest_32 ?_
        exact g_retZ dX9_spoilsRest_33 rfl (Or.inr rfl) w
theorem e_X9_spoilsRest {l : Launch} {D : Nat} {ζ : ZP} {h : HI} {Q : Int → HI → Prop} {x2 x3 : Int} {wc : Nat} (hn : 144 ≤ ζ.2.2.2.2) (hw : isW wc) (w : G l (D + 1) 0 0 mX9_spoilsRest (zz ζ) 3 [aP 91, aP wc, aI x2, aI x3, aI 0] [] h (qI (zz ζ) Q)) : RtI l (D + 1) mX9_spoilsRest (zz ζ) [aP 91, aP wc, aI x2, aI x3] h Q := by
  refine RtI.of 1 pn_X9 [aP 91, aP wc, aI x2, aI x3, aU] rfl rfl ?_
  refine g_iconst dX9_spoilsRest_0 ?_
  refine g_istore (ls' := [aP 91, aP wc, aI x2, aI x3, aI 0]) dX9_spoilsRest_1 (Nat.le_of_ble_eq_true rfl) rfl rfl ?_
  exact g_sub (ls' := [aP 91, aP wc, aI x2, aI x3, aI 0]) ⟨Or.inr rfl, Or.inr rfl, Or.inr rfl, Or.inr rfl, Or.inr rfl, trivial⟩ w
theorem b_X9_weld_126 {l : Launch} {D : Nat} {ζ : ZP} {h : HI} {Q : Int → HI → Prop} {x2 x3 x5 x6 x7 x8 x9 : Int} {wc : Nat} (hn : 144 ≤ ζ.2.2.2.2) (hw : isW wc) (w : (rg x9) ∧ (rg (x5 + 60)) ∧ (if (x5 + 60) ≤ x9 then (RtI l D mX9_shorts (zz ζ) [aP 91, aP wc, aI (x2 + 1), aI x3] h (fun r1 h1 => (rg r1) ∧ (if ¬ r1 = 0 then (Q 0 h1) else (Q 1 h1)))) else ((0 ≤ x9 ∧ x9 < 780) ∧ (rg (h 94 x9)) ∧ (rg x7) ∧ (if ¬ (h 94 x9) = x7 then (G l (D + 1) 0 0 mX9_weld (zz ζ) 126 [aP 91, aP wc, aI x2, aI x3, aU, aI x5, aI x6, aI x7, aI x8, aI (x9 + 1)] [] h (qI (zz ζ) Q)) else (G l (D + 1) 0 0 mX9_weld (zz ζ) 126 [aP 91, aP wc, aI x2, aI x3, aU, aI x5, aI x6, aI x7, aI x8, aI (x9 + 1)] [] (hu (hu h 94 x9 x8) 95 x9 ((h 95 x9) + x6)) (qI (zz ζ) Q)))))) : G l (D + 1) 0 0 mX9_weld (zz ζ) 126 [aP 91, aP wc, aI x2, aI x3, aU, aI x5, aI x6, aI x7, aI x8, aI x9] [] h (qI (zz ζ) Q) := by
  refine g_iload dX9_weld_126 rfl ?_
  refine g_iload dX9_weld_128 rfl ?_
  refine g_bipush dX9_weld_130 rfl ?_
  refine g_iadd dX9_weld_132 ?_
  obtain ⟨o1, w⟩ := w
  obtain ⟨o2, w⟩ := w
  refine g_cmp_ge (tgt := 175) dX9_weld_133 rfl o1 o2 ?_
  refine ite_imp (fun w => ?_) (fun w => ?_) w
  · refine g_aload_n dX9_weld_175 rfl ?_
    refine g_aload_n dX9_weld_176 rfl ?_
    refine g_iload_n dX9_weld_177 rfl ?_
    refine g_iconst dX9_weld_178 ?_
    refine g_iadd dX9_weld_179 ?_
    refine g_iload_n dX9_weld_180 rfl ?_
    refine g_callVI (n := 3) (As := [aP wc, aI (x2 + 1), aI x3]) (st := []) dX9_weld_181 ml_X9_69 sh_91 rfl (al_91 hn) rfl rfl (Nat.le_of_ble_eq_true rfl) (RtI.mono w (fun r1 h1 w => ?_))
    obtain ⟨o3, w⟩ := w
    refine g_if_ne (tgt := 191) dX9_weld_184 rfl o3 ?_
    refine ite_imp (fun w => ?_) (fun w => ?_) w
    · refine g_iconst dX9_weld_191 ?_
      exact g_retZ dX9_weld_192 rfl (Or.inl rfl) w
    · refine g_iconst dX9_weld_187 ?_
      refine g_goto (tgt := 192) dX9_weld_188 rfl ?_
      exact g_retZ dX9_weld_192 rfl (Or.inr rfl) w
  · refine g_aload_n dX9_weld_136 rfl ?_
    refine g_getR dX9_weld_137 fl_X9_20 sh_91 (al_91 hn) (fun _ _ _ => rfl) rf_91_3 ?_
    refine g_iload dX9_weld_140 rfl ?_
    obtain ⟨o4, w⟩ := w
    refine g_iald dX9_weld_142 sh_94 (al_94 hn) (Nat.le_of_ble_eq_true rfl) o4 ?_
    refine g_iload dX9_weld_143 rfl ?_
    obtain ⟨o5, w⟩ := w
    obtain ⟨o6, w⟩ := w
    refine g_cmp_ne (tgt := 169) dX9_weld_145 rfl o5 o6 ?_
    refine ite_imp (fun w => ?_) (fun w => ?_) w
    · refine g_iinc (ls' := [aP 91, aP wc, aI x2, aI x3, aU, aI x5, aI x6, aI x7, aI x8, aI (x9 + 1)]) dX9_weld_169 rfl (Nat.le_of_ble_eq_true rfl) rfl rfl ?_
      refine g_goto (tgt := 126) dX9_weld_172 rfl ?_
      exact g_sub (ls' := [aP 91, aP wc, aI x2, aI x3, aU, aI x5, aI x6, aI x7, aI x8, aI (x9 + 1)]) ⟨Or.inr rfl, Or.inr rfl, Or.inr rfl, Or.inr rfl, Or.inl rfl, Or.inr rfl, Or.inr rfl, Or.inr rfl, Or.inr rfl, Or.inr rfl, trivial⟩ w
    · refine g_aload_n dX9_weld_148 rfl ?_
      refine g_getR dX9_weld_149 fl_X9_20 sh_91 (al_91 hn) (fun _ _ _ => rfl) rf_91_3 ?_
      refine g_iload dX9_weld_152 rfl ?_
      refine g_iload dX9_weld_154 rfl ?_
      refine g_iast dX9_weld_156 sh_94 (al_94 hn) (Nat.le_of_ble_eq_true rfl) o4 ?_
      refine g_aload_n dX9_weld_157 rfl ?_
      refine g_getR dX9_weld_158 fl_X9_23 sh_91 (al_91 hn) (fun _ _ _ => rfl) rf_91_4 ?_
      refine g_iload dX9_weld_161 rfl ?_
      refine g_dup2 dX9_weld_163 rfl rfl ?_
      refine g_iald dX9_weld_164 sh_95 (al_95 hn) (Nat.le_of_ble_eq_true rfl) o4 ?_
      refine g_iload dX9_weld_165 rfl ?_
      refine g_iadd dX9_weld_167 ?_
      refine g_iast dX9_weld_168 sh_95 (al_95 hn) (Nat.le_of_ble_eq_true rfl) o4 ?_
      refine g_iinc (ls' := [aP 91, aP wc, aI x2, aI x3, aU, aI x5, aI x6, aI x7, aI x8, aI (x9 + 1)]) dX9_weld_169 rfl (Nat.le_of_ble_eq_true rfl) rfl rfl ?_
      refine g_goto (tgt := 126) dX9_weld_172 rfl ?_
      exact g_sub (ls' := [aP 91, aP wc, aI x2, aI x3, aU, aI x5, aI x6, aI x7, aI x8, aI (x9 + 1)]) ⟨Or.inr rfl, Or.inr rfl, Or.inr rfl, Or.inr rfl, Or.inl rfl, Or.inr rfl, Or.inr rfl, Or.inr rfl, Or.inr rfl, Or.inr rfl, trivial⟩ w
theorem e_X9_weld {l : Launch} {D : Nat} {ζ : ZP} {h : HI} {Q : Int → HI → Prop} {x2 x3 : Int} {wc : Nat} (hn : 144 ≤ ζ.2.2.2.2) (hw : isW wc) (w : ((0 : Int) ≤ (x2 * 60) ∧ (0 : Int) ≤ ((x2 * 60) + 60) ∧ (0 : Int) ≤ 60 ∧ (x2 * 60) + 60 ≤ 780 ∧ ((x2 * 60) + 60) + 60 ≤ 780) ∧ (0 ≤ x3 ∧ x3 < 12) ∧ RtI l D mX9_together (zz ζ) [aP 91, aI x2, aI ((hcp (hcp h 94 (x2 * 60) 94 ((x2 * 60) + 60) 60) 95 (x2 * 60) 95 ((x2 * 60) + 60) 60) (wc + 1) x3), aI ((hcp (hcp h 94 (x2 * 60) 94 ((x2 * 60) + 60) 60) 95 (x2 * 60) 95 ((x2 * 60) + 60) 60) (wc + 2) x3)] (hcp (hcp h 94 (x2 * 60) 94 ((x2 * 60) + 60) 60) 95 (x2 * 60) 95 ((x2 * 60) + 60) 60) (fun r1 h1 => (rg r1) ∧ (if ¬ r1 = 0 then (RtI l D mX9_shorts (zz ζ) [aP 91, aP wc, aI (x2 + 1), aI x3] h1 (fun r2 h2 => (rg r2) ∧ (if ¬ r2 = 0 then (Q 0 h2) else (Q 1 h2)))) else (RtI l D mX9_apart (zz ζ) [aP 91, aI x2, aI (h1 (wc + 1) x3), aI (h1 (wc + 2) x3)] h1 (fun r3 h3 => (0 ≤ (((x2 * 60) + 60) + (bshr (h3 (wc + 2) x3) 1)) ∧ (((x2 * 60) + 60) + (bshr (h3 (wc + 2) x3) 1)) < 780) ∧ (0 ≤ (((x2 * 60) + 60) + (bshr (h3 (wc + 1) x3) 1)) ∧ (((x2 * 60) + 60) + (bshr (h3 (wc + 1) x3) 1)) < 780) ∧ G l (D + 1) 0 0 mX9_weld (zz ζ) 126 [aP 91, aP wc, aI x2, aI x3, aU, aI ((x2 * 60) + 60), aI r3, aI (h3 94 (((x2 * 60) + 60) + (bshr (h3 (wc + 2) x3) 1))), aI (h3 94 (((x2 * 60) + 60) + (bshr (h3 (wc + 1) x3) 1))), aI ((x2 * 60) + 60)] [] h3 (qI (zz ζ) Q)))))) : RtI l (D + 1) mX9_weld (zz ζ) [aP 91, aP wc, aI x2, aI x3] h Q := by
  refine RtI.of 6 pn_X9 [aP 91, aP wc, aI x2, aI x3, aU, aU, aU, aU, aU, aU] rfl rfl ?_
  refine g_iload_n dX9_weld_0 rfl ?_
  refine g_bipush dX9_weld_1 rfl ?_
  refine g_imul dX9_weld_3 ?_
  refine g_istore (ls' := [aP 91, aP wc, aI x2, aI x3, aI (x2 * 60), aU, aU, aU, aU, aU]) dX9_weld_4 (Nat.le_of_ble_eq_true rfl) rfl rfl ?_
  refine g_iload dX9_weld_6 rfl ?_
  refine g_bipush dX9_weld_8 rfl ?_
  refine g_iadd dX9_weld_10 ?_
  refine g_istore (ls' := [aP 91, aP wc, aI x2, aI x3, aI (x2 * 60), aI ((x2 * 60) + 60), aU, aU, aU, aU]) dX9_weld_11 (Nat.le_of_ble_eq_true rfl) rfl rfl ?_
  refine g_aload_n dX9_weld_13 rfl ?_
  refine g_getR dX9_weld_14 fl_X9_20 sh_91 (al_91 hn) (fun _ _ _ => rfl) rf_91_3 ?_
  refine g_iload dX9_weld_17 rfl ?_
  refine g_aload_n dX9_weld_19 rfl ?_
  refine g_getR dX9_weld_20 fl_X9_20 sh_91 (al_91 hn) (fun _ _ _ => rfl) rf_91_3 ?_
  refine g_iload dX9_weld_23 rfl ?_
  refine g_bipush dX9_weld_25 rfl ?_
  obtain ⟨o1, w⟩ := w
  refine g_copy dX9_weld_27 cw_X9_41 (Nat.le_of_ble_eq_true rfl) sh_94 (al_94 hn) sh_94 (al_94 hn) (Nat.le_of_ble_eq_true rfl) (Nat.le_of_ble_eq_true rfl) o1 ?_
  refine g_aload_n dX9_weld_30 rfl ?_
  refine g_getR dX9_weld_31 fl_X9_23 sh_91 (al_91 hn) (fun _ _ _ => rfl) rf_91_4 ?_
  refine g_iload dX9_weld_34 rfl ?_
  refine g_aload_n dX9_weld_36 rfl ?_
  refine g_getR dX9_weld_37 fl_X9_23 sh_91 (al_91 hn) (fun _ _ _ => rfl) rf_91_4 ?_
  refine g_iload dX9_weld_40 rfl ?_
  refine g_bipush dX9_weld_42 rfl ?_
  refine g_copy dX9_weld_44 cw_X9_41 (Nat.le_of_ble_eq_true rfl) sh_95 (al_95 hn) sh_95 (al_95 hn) (Nat.le_of_ble_eq_true rfl) (Nat.le_of_ble_eq_true rfl) o1 ?_
  refine g_aload_n dX9_weld_47 rfl ?_
  refine g_iload_n dX9_weld_48 rfl ?_
  refine g_aload_n dX9_weld_49 rfl ?_
  refine g_getR dX9_weld_50 fl_X9_72 (shw_0 hw) (alw_0 hw hn) (fun _ _ _ => rfl) (rfw_1 hw) ?_
  refine g_iload_n dX9_weld_53 rfl ?_
  obtain ⟨o2, w⟩ := w
  refine g_iald dX9_weld_54 (shw_1 hw) (alw_1 hw hn) (Nat.le_of_ble_eq_true rfl) o2 ?_
  refine g_aload_n dX9_weld_55 rfl ?_
  refine g_getR dX9_weld_56 fl_X9_75 (shw_0 hw) (alw_0 hw hn) (fun _ _ _ => rfl) (rfw_2 hw) ?_
  refine g_iload_n dX9_weld_59 rfl ?_
  refine g_iald dX9_weld_60 (shw_2 hw) (alw_2 hw hn) (Nat.le_of_ble_eq_true rfl) o2 ?_
  refine g_callVI (n := 3) (As := [aI x2, aI ((hcp (hcp h 94 (x2 * 60) 94 ((x2 * 60) + 60) 60) 95 (x2 * 60) 95 ((x2 * 60) + 60) 60) (wc + 1) x3), aI ((hcp (hcp h 94 (x2 * 60) 94 ((x2 * 60) + 60) 60) 95 (x2 * 60) 95 ((x2 * 60) + 60) 60) (wc + 2) x3)]) (st := []) dX9_weld_61 ml_X9_78 sh_91 rfl (al_91 hn) rfl rfl (Nat.le_of_ble_eq_true rfl) (RtI.mono w (fun r1 h1 w => ?_))
  obtain ⟨o3, w⟩ := w
  refine g_if_ne (tgt := 175) dX9_weld_64 rfl o3 ?_
  refine ite_imp (fun w => ?_) (fun w => ?_) w
  · refine g_aload_n dX9_weld_175 rfl ?_
    refine g_aload_n dX9_weld_176 rfl ?_
    refine g_iload_n dX9_weld_177 rfl ?_
    refine g_iconst dX9_weld_178 ?_
    refine g_iadd dX9_weld_179 ?_
    refine g_iload_n dX9_weld_180 rfl ?_
    refine g_callVI (n := 3) (As := [aP wc, aI (x2 + 1), aI x3]) (st := []) dX9_weld_181 ml_X9_69 sh_91 rfl (al_91 hn) rfl rfl (Nat.le_of_ble_eq_true rfl) (RtI.mono w (fun r2 h2 w => ?_))
    obtain ⟨o4, w⟩ := w
    refine g_if_ne (tgt := 191) dX9_weld_184 rfl o4 ?_
    refine ite_imp (fun w => ?_) (fun w => ?_) w
    · refine g_iconst dX9_weld_191 ?_
      exact g_retZ dX9_weld_192 rfl (Or.inl rfl) w
    · refine g_iconst dX9_weld_187 ?_
      refine g_goto (tgt := 192) dX9_weld_188 rfl ?_
      exact g_retZ dX9_weld_192 rfl (Or.inr rfl) w
  · refine g_aload_n dX9_weld_67 rfl ?_
    refine g_iload_n dX9_weld_68 rfl ?_
    refine g_aload_n dX9_weld_69 rfl ?_
    refine g_getR dX9_weld_70 fl_X9_72 (shw_0 hw) (alw_0 hw hn) (fun _ _ _ => rfl) (rfw_1 hw) ?_
    refine g_iload_n dX9_weld_73 rfl ?_
    refine g_iald dX9_weld_74 (shw_1 hw) (alw_1 hw hn) (Nat.le_of_ble_eq_true rfl) o2 ?_
    refine g_aload_n dX9_weld_75 rfl ?_
    refine g_getR dX9_weld_76 fl_X9_75 (shw_0 hw) (alw_0 hw hn) (fun _ _ _ => rfl) (rfw_2 hw) ?_
    refine g_iload_n dX9_weld_79 rfl ?_
    refine g_iald dX9_weld_80 (shw_2 hw) (alw_2 hw hn) (Nat.le_of_ble_eq_true rfl) o2 ?_
    refine g_callVI (n := 3) (As := [aI x2, aI (h1 (wc + 1) x3), aI (h1 (wc + 2) x3)]) (st := []) dX9_weld_81 ml_X9_82 sh_91 rfl (al_91 hn) rfl rfl (Nat.le_of_ble_eq_true rfl) (RtI.mono w (fun r3 h3 w => ?_))
    refine g_istore (ls' := [aP 91, aP wc, aI x2, aI x3, aI (x2 * 60), aI ((x2 * 60) + 60), aI r3, aU, aU, aU]) dX9_weld_84 (Nat.le_of_ble_eq_true rfl) rfl rfl ?_
    refine g_aload_n dX9_weld_86 rfl ?_
    refine g_getR dX9_weld_87 fl_X9_20 sh_91 (al_91 hn) (fun _ _ _ => rfl) rf_91_3 ?_
    refine g_iload dX9_weld_90 rfl ?_
    refine g_aload_n dX9_weld_92 rfl ?_
    refine g_getR dX9_weld_93 fl_X9_75 (shw_0 hw) (alw_0 hw hn) (fun _ _ _ => rfl) (rfw_2 hw) ?_
    refine g_iload_n dX9_weld_96 rfl ?_
    refine g_iald dX9_weld_97 (shw_2 hw) (alw_2 hw hn) (Nat.le_of_ble_eq_true rfl) o2 ?_
    refine g_iconst dX9_weld_98 ?_
    refine g_ishr dX9_weld_99 ?_
    refine g_iadd dX9_weld_100 ?_
    obtain ⟨o5, w⟩ := w
    refine g_iald dX9_weld_101 sh_94 (al_94 hn) (Nat.le_of_ble_eq_true rfl) o5 ?_
    refine g_istore (ls' := [aP 91, aP wc, aI x2, aI x3, aI (x2 * 60), aI ((x2 * 60) + 60), aI r3, aI (h3 94 (((x2 * 60) + 60) + (bshr (h3 (wc + 2) x3) 1))), aU, aU]) dX9_weld_102 (Nat.le_of_ble_eq_true rfl) rfl rfl ?_
    refine g_aload_n dX9_weld_104 rfl ?_
    refine g_getR dX9_weld_105 fl_X9_20 sh_91 (al_91 hn) (fun _ _ _ => rfl) rf_91_3 ?_
    refine g_iload dX9_weld_108 rfl ?_
    refine g_aload_n dX9_weld_110 rfl ?_
    refine g_getR dX9_weld_111 fl_X9_72 (shw_0 hw) (alw_0 hw hn) (fun _ _ _ => rfl) (rfw_1 hw) ?_
    refine g_iload_n dX9_weld_114 rfl ?_
    refine g_iald dX9_weld_115 (shw_1 hw) (alw_1 hw hn) (Nat.le_of_ble_eq_true rfl) o2 ?_
    refine g_iconst dX9_weld_116 ?_
    refine g_ishr dX9_weld_117 ?_
    refine g_iadd dX9_weld_118 ?_
    obtain ⟨o6, w⟩ := w
    refine g_iald dX9_weld_119 sh_94 (al_94 hn) (Nat.le_of_ble_eq_true rfl) o6 ?_
    refine g_istore (ls' := [aP 91, aP wc, aI x2, aI x3, aI (x2 * 60), aI ((x2 * 60) + 60), aI r3, aI (h3 94 (((x2 * 60) + 60) + (bshr (h3 (wc + 2) x3) 1))), aI (h3 94 (((x2 * 60) + 60) + (bshr (h3 (wc + 1) x3) 1))), aU]) dX9_weld_120 (Nat.le_of_ble_eq_true rfl) rfl rfl ?_
    refine g_iload dX9_weld_122 rfl ?_
    refine g_istore (ls' := [aP 91, aP wc, aI x2, aI x3, aI (x2 * 60), aI ((x2 * 60) + 60), aI r3, aI (h3 94 (((x2 * 60) + 60) + (bshr (h3 (wc + 2) x3) 1))), aI (h3 94 (((x2 * 60) + 60) + (bshr (h3 (wc + 1) x3) 1))), aI ((x2 * 60) + 60)]) dX9_weld_124 (Nat.le_of_ble_eq_true rfl) rfl rfl ?_
    exact g_sub (ls' := [aP 91, aP wc, aI x2, aI x3, aU, aI ((x2 * 60) + 60), aI r3, aI (h3 94 (((x2 * 60) + 60) + (bshr (h3 (wc + 2) x3) 1))), aI (h3 94 (((x2 * 60) + 60) + (bshr (h3 (wc + 1) x3) 1))), aI ((x2 * 60) + 60)]) ⟨Or.inr rfl, Or.inr rfl, Or.inr rfl, Or.inr rfl, Or.inl rfl, Or.inr rfl, Or.inr rfl, Or.inr rfl, Or.inr rfl, Or.inr rfl, trivial⟩ w
theorem b_X9_shorts_45 {l : Launch} {D : Nat} {ζ : ZP} {h : HI} {Q : Int → HI → Prop} {x2 x3 x4 : Int} {wc : Nat} (hn : 144 ≤ ζ.2.2.2.2) (hw : isW wc) (w : (rg x4) ∧ (rg (h wc 4)) ∧ (if (h wc 4) ≤ x4 then (Q 0 h) else ((0 ≤ x4 ∧ x4 < 64) ∧ (rg (h (wc + 4) x4)) ∧ (rg x3) ∧ (if ¬ (h (wc + 4) x4) = x3 then (G l (D + 1) 0 0 mX9_shorts (zz ζ) 45 [aP 91, aP wc, aI x2, aI x3, aI (x4 + 1), aU] [] h (qI (zz ζ) Q)) else (RtI l D mX9_together (zz ζ) [aP 91, aI x2, aI (h (wc + 5) x4), aI (h (wc + 6) x4)] h (fun r1 h1 => (rg r1) ∧ (if r1 = 0 then (G l (D + 1) 0 0 mX9_shorts (zz ζ) 45 [aP 91, aP wc, aI x2, aI x3, aI (x4 + 1), aU] [] h1 (qI (zz ζ) Q)) else (RtI l D mX9_apart (zz ζ) [aP 91, aI x2, aI (h1 (wc + 5) x4), aI (h1 (wc + 6) x4)] h1 (fun r2 h2 => (rg r2) ∧ (if 1 < r2 then (Q 1 h2) else (if (-1) ≤ r2 then (G l (D + 1) 0 0 mX9_shorts (zz ζ) 45 [aP 91, aP wc, aI x2, aI x3, aI (x4 + 1), aU] [] h2 (qI (zz ζ) Q)) else (Q 1 h2)))))))))))) : G l (D + 1) 0 0 mX9_shorts (zz ζ) 45 [aP 91, aP wc, aI x2, aI x3, aI x4, aU] [] h (qI (zz ζ) Q) := by
  refine g_iload dX9_shorts_45 rfl ?_
  refine g_aload_n dX9_shorts_47 rfl ?_
  refine g_getI (J := 4) dX9_shorts_48 fl_X9_86 (shw_0 hw) (alw_0 hw hn) (fun _ _ _ => rfl) rfl ?_
  obtain ⟨o1, w⟩ := w
  obtain ⟨o2, w⟩ := w
  refine g_cmp_ge (tgt := 128) dX9_shorts_51 rfl o1 o2 ?_
  refine ite_imp (fun w => ?_) (fun w => ?_) w
  · refine g_iconst dX9_shorts_128 ?_
    exact g_retZ dX9_shorts_129 rfl (Or.inl rfl) w
  · refine g_aload_n dX9_shorts_54 rfl ?_
    refine g_getR dX9_shorts_55 fl_X9_89 (shw_0 hw) (alw_0 hw hn) (fun _ _ _ => rfl) (rfw_5 hw) ?_
    refine g_iload dX9_shorts_58 rfl ?_
    obtain ⟨o3, w⟩ := w
    refine g_iald dX9_shorts_60 (shw_4 hw) (alw_4 hw hn) (Nat.le_of_ble_eq_true rfl) o3 ?_
    refine g_iload_n dX9_shorts_61 rfl ?_
    obtain ⟨o4, w⟩ := w
    obtain ⟨o5, w⟩ := w
    refine g_cmp_ne (tgt := 122) dX9_shorts_62 rfl o4 o5 ?_
    refine ite_imp (fun w => ?_) (fun w => ?_) w
    · refine g_iinc (ls' := [aP 91, aP wc, aI x2, aI x3, aI (x4 + 1), aU]) dX9_shorts_122 rfl (Nat.le_of_ble_eq_true rfl) rfl rfl ?_
      refine g_goto (tgt := 45) dX9_shorts_125 rfl ?_
      exact g_sub (ls' := [aP 91, aP wc, aI x2, aI x3, aI (x4 + 1), aU]) ⟨Or.inr rfl, Or.inr rfl, Or.inr rfl, Or.inr rfl, Or.inr rfl, Or.inl rfl, trivial⟩ w
    · refine g_aload_n dX9_shorts_65 rfl ?_
      refine g_iload_n dX9_shorts_66 rfl ?_
      refine g_aload_n dX9_shorts_67 rfl ?_
      refine g_getR dX9_shorts_68 fl_X9_92 (shw_0 hw) (alw_0 hw hn) (fun _ _ _ => rfl) (rfw_6 hw) ?_
      refine g_iload dX9_shorts_71 rfl ?_
      refine g_iald dX9_shorts_73 (shw_5 hw) (alw_5 hw hn) (Nat.le_of_ble_eq_true rfl) o3 ?_
      refine g_aload_n dX9_shorts_74 rfl ?_
      refine g_getR dX9_shorts_75 fl_X9_95 (shw_0 hw) (alw_0 hw hn) (fun _ _ _ => rfl) (rfw_7 hw) ?_
      refine g_iload dX9_shorts_78 rfl ?_
      refine g_iald dX9_shorts_80 (shw_6 hw) (alw_6 hw hn) (Nat.le_of_ble_eq_true rfl) o3 ?_
      refine g_callVI (n := 3) (As := [aI x2, aI (h (wc + 5) x4), aI (h (wc + 6) x4)]) (st := []) dX9_shorts_81 ml_X9_78 sh_91 rfl (al_91 hn) rfl rfl (Nat.le_of_ble_eq_true rfl) (RtI.mono w (fun r1 h1 w => ?_))
      obtain ⟨o6, w⟩ := w
      refine g_if_eq (tgt := 122) dX9_shorts_84 rfl o6 ?_
      refine ite_imp (fun w => ?_) (fun w => ?_) w
      · refine g_iinc (ls' := [aP 91, aP wc, aI x2, aI x3, aI (x4 + 1), aU]) dX9_shorts_122 rfl (Nat.le_of_ble_eq_true rfl) rfl rfl ?_
        refine g_goto (tgt := 45) dX9_shorts_125 rfl ?_
        exact g_sub (ls' := [aP 91, aP wc, aI x2, aI x3, aI (x4 + 1), aU]) ⟨Or.inr rfl, Or.inr rfl, Or.inr rfl, Or.inr rfl, Or.inr rfl, Or.inl rfl, trivial⟩ w
      · refine g_aload_n dX9_shorts_87 rfl ?_
        refine g_iload_n dX9_shorts_88 rfl ?_
        refine g_aload_n dX9_shorts_89 rfl ?_
        refine g_getR dX9_shorts_90 fl_X9_92 (shw_0 hw) (alw_0 hw hn) (fun _ _ _ => rfl) (rfw_6 hw) ?_
        refine g_iload dX9_shorts_93 rfl ?_
        refine g_iald dX9_shorts_95 (shw_5 hw) (alw_5 hw hn) (Nat.le_of_ble_eq_true rfl) o3 ?_
        refine g_aload_n dX9_shorts_96 rfl ?_
        refine g_getR dX9_shorts_97 fl_X9_95 (shw_0 hw) (alw_0 hw hn) (fun _ _ _ => rfl) (rfw_7 hw) ?_
        refine g_iload dX9_shorts_100 rfl ?_
        refine g_iald dX9_shorts_102 (shw_6 hw) (alw_6 hw hn) (Nat.le_of_ble_eq_true rfl) o3 ?_
        refine g_callVI (n := 3) (As := [aI x2, aI (h1 (wc + 5) x4), aI (h1 (wc + 6) x4)]) (st := []) dX9_shorts_103 ml_X9_82 sh_91 rfl (al_91 hn) rfl rfl (Nat.le_of_ble_eq_true rfl) (RtI.mono w (fun r2 h2 w => ?_))
        refine g_istore (ls' := [aP 91, aP wc, aI x2, aI x3, aI x4, aI r2]) dX9_shorts_106 (Nat.le_of_ble_eq_true rfl) rfl rfl ?_
        refine g_iload dX9_shorts_108 rfl ?_
        refine g_iconst dX9_shorts_110 ?_
        obtain ⟨o7, w⟩ := w
        refine g_cmp_gt (tgt := 120) dX9_shorts_111 rfl o7 (by decide) ?_
        refine ite_imp (fun w => ?_) (fun w => ?_) w
        · refine g_iconst dX9_shorts_120 ?_
          exact g_retZ dX9_shorts_121 rfl (Or.inr rfl) w
        · refine g_iload dX9_shorts_114 rfl ?_
          refine g_iconst dX9_shorts_116 ?_
          refine g_cmp_ge (tgt := 122) dX9_shorts_117 rfl o7 (by decide) ?_
          refine ite_imp (fun w => ?_) (fun w => ?_) w
          · refine g_iinc (ls' := [aP 91, aP wc, aI x2, aI x3, aI (x4 + 1), aI r2]) dX9_shorts_122 rfl (Nat.le_of_ble_eq_true rfl) rfl rfl ?_
            refine g_goto (tgt := 45) dX9_shorts_125 rfl ?_
            exact g_sub (ls' := [aP 91, aP wc, aI x2, aI x3, aI (x4 + 1), aU]) ⟨Or.inr rfl, Or.inr rfl, Or.inr rfl, Or.inr rfl, Or.inr rfl, Or.inl rfl, trivial⟩ w
          · refine g_iconst dX9_shorts_120 ?_
            exact g_retZ dX9_shorts_121 rfl (Or.inr rfl) w
theorem e_X9_shorts {l : Launch} {D : Nat} {ζ : ZP} {h : HI} {Q : Int → HI → Prop} {x2 x3 : Int} {wc : Nat} (hn : 144 ≤ ζ.2.2.2.2) (hw : isW wc) (w : (0 ≤ x3 ∧ x3 < 12) ∧ RtI l D mX9_together (zz ζ) [aP 91, aI x2, aI (h (wc + 1) x3), aI (h (wc + 2) x3)] h (fun r1 h1 => (rg r1) ∧ (if r1 = 0 then (G l (D + 1) 0 0 mX9_shorts (zz ζ) 45 [aP 91, aP wc, aI x2, aI x3, aI 0, aU] [] h1 (qI (zz ζ) Q)) else (RtI l D mX9_apart (zz ζ) [aP 91, aI x2, aI (h1 (wc + 1) x3), aI (h1 (wc + 2) x3)] h1 (fun r2 h2 => (rg r2) ∧ (if r2 = 0 then (G l (D + 1) 0 0 mX9_shorts (zz ζ) 45 [aP 91, aP wc, aI x2, aI x3, aI 0, aU] [] h2 (qI (zz ζ) Q)) else (Q 1 h2))))))) : RtI l (D + 1) mX9_shorts (zz ζ) [aP 91, aP wc, aI x2, aI x3] h Q := by
  refine RtI.of 2 pn_X9 [aP 91, aP wc, aI x2, aI x3, aU, aU] rfl rfl ?_
  refine g_aload_n dX9_shorts_0 rfl ?_
  refine g_iload_n dX9_shorts_1 rfl ?_
  refine g_aload_n dX9_shorts_2 rfl ?_
  refine g_getR dX9_shorts_3 fl_X9_72 (shw_0 hw) (alw_0 hw hn) (fun _ _ _ => rfl) (rfw_1 hw) ?_
  refine g_iload_n dX9_shorts_6 rfl ?_
  obtain ⟨o1, w⟩ := w
  refine g_iald dX9_shorts_7 (shw_1 hw) (alw_1 hw hn) (Nat.le_of_ble_eq_true rfl) o1 ?_
  refine g_aload_n dX9_shorts_8 rfl ?_
  refine g_getR dX9_shorts_9 fl_X9_75 (shw_0 hw) (alw_0 hw hn) (fun _ _ _ => rfl) (rfw_2 hw) ?_
  refine g_iload_n dX9_shorts_12 rfl ?_
  refine g_iald dX9_shorts_13 (shw_2 hw) (alw_2 hw hn) (Nat.le_of_ble_eq_true rfl) o1 ?_
  refine g_callVI (n := 3) (As := [aI x2, aI (h (wc + 1) x3), aI (h (wc + 2) x3)]) (st := []) dX9_shorts_14 ml_X9_78 sh_91 rfl (al_91 hn) rfl rfl (Nat.le_of_ble_eq_true rfl) (RtI.mono w (fun r1 h1 w => ?_))
  obtain ⟨o2, w⟩ := w
  refine g_if_eq (tgt := 42) dX9_shorts_17 rfl o2 ?_
  refine ite_imp (fun w => ?_) (fun w => ?_) w
  · refine g_iconst dX9_shorts_42 ?_
    refine g_istore (ls' := [aP 91, aP wc, aI x2, aI x3, aI 0, aU]) dX9_shorts_43 (Nat.le_of_ble_eq_true rfl) rfl rfl ?_
    exact g_sub (ls' := [aP 91, aP wc, aI x2, aI x3, aI 0, aU]) ⟨Or.inr rfl, Or.inr rfl, Or.inr rfl, Or.inr rfl, Or.inr rfl, Or.inl rfl, trivial⟩ w
  · refine g_aload_n dX9_shorts_20 rfl ?_
    refine g_iload_n dX9_shorts_21 rfl ?_
    refine g_aload_n dX9_shorts_22 rfl ?_
    refine g_getR dX9_shorts_23 fl_X9_72 (shw_0 hw) (alw_0 hw hn) (fun _ _ _ => rfl) (rfw_1 hw) ?_
    refine g_iload_n dX9_shorts_26 rfl ?_
    refine g_iald dX9_shorts_27 (shw_1 hw) (alw_1 hw hn) (Nat.le_of_ble_eq_true rfl) o1 ?_
    refine g_aload_n dX9_shorts_28 rfl ?_
    refine g_getR dX9_shorts_29 fl_X9_75 (shw_0 hw) (alw_0 hw hn) (fun _ _ _ => rfl) (rfw_2 hw) ?_
    refine g_iload_n dX9_shorts_32 rfl ?_
    refine g_iald dX9_shorts_33 (shw_2 hw) (alw_2 hw hn) (Nat.le_of_ble_eq_true rfl) o1 ?_
    refine g_callVI (n := 3) (As := [aI x2, aI (h1 (wc + 1) x3), aI (h1 (wc + 2) x3)]) (st := []) dX9_shorts_34 ml_X9_82 sh_91 rfl (al_91 hn) rfl rfl (Nat.le_of_ble_eq_true rfl) (RtI.mono w (fun r2 h2 w => ?_))
    obtain ⟨o3, w⟩ := w
    refine g_if_eq (tgt := 42) dX9_shorts_37 rfl o3 ?_
    refine ite_imp (fun w => ?_) (fun w => ?_) w
    · refine g_iconst dX9_shorts_42 ?_
      refine g_istore (ls' := [aP 91, aP wc, aI x2, aI x3, aI 0, aU]) dX9_shorts_43 (Nat.le_of_ble_eq_true rfl) rfl rfl ?_
      exact g_sub (ls' := [aP 91, aP wc, aI x2, aI x3, aI 0, aU]) ⟨Or.inr rfl, Or.inr rfl, Or.inr rfl, Or.inr rfl, Or.inr rfl, Or.inl rfl, trivial⟩ w
    · refine g_iconst dX9_shorts_40 ?_
      exact g_retZ dX9_shorts_41 rfl (Or.inr rfl) w
theorem e_X9_together {l : Launch} {D : Nat} {ζ : ZP} {h : HI} {Q : Int → HI → Prop} {x1 x2 x3 : Int} (hn : 144 ≤ ζ.2.2.2.2) (w : (0 ≤ ((x1 * 60) + (bshr x2 1)) ∧ ((x1 * 60) + (bshr x2 1)) < 780) ∧ (0 ≤ ((x1 * 60) + (bshr x3 1)) ∧ ((x1 * 60) + (bshr x3 1)) < 780) ∧ (rg (h 94 ((x1 * 60) + (bshr x2 1)))) ∧ (rg (h 94 ((x1 * 60) + (bshr x3 1)))) ∧ (if ¬ (h 94 ((x1 * 60) + (bshr x2 1))) = (h 94 ((x1 * 60) + (bshr x3 1))) then (Q 0 h) else (Q 1 h))) : RtI l (D + 1) mX9_together (zz ζ) [aP 91, aI x1, aI x2, aI x3] h Q := by
  refine RtI.of 0 pn_X9 [aP 91, aI x1, aI x2, aI x3] rfl rfl ?_
  refine g_aload_n dX9_together_0 rfl ?_
  refine g_getR dX9_together_1 fl_X9_20 sh_91 (al_91 hn) (fun _ _ _ => rfl) rf_91_3 ?_
  refine g_iload_n dX9_together_4 rfl ?_
  refine g_bipush dX9_together_5 rfl ?_
  refine g_imul dX9_together_7 ?_
  refine g_iload_n dX9_together_8 rfl ?_
  refine g_iconst dX9_together_9 ?_
  refine g_ishr dX9_together_10 ?_
  refine g_iadd dX9_together_11 ?_
  obtain ⟨o1, w⟩ := w
  refine g_iald dX9_together_12 sh_94 (al_94 hn) (Nat.le_of_ble_eq_true rfl) o1 ?_
  refine g_aload_n dX9_together_13 rfl ?_
  refine g_getR dX9_together_14 fl_X9_20 sh_91 (al_91 hn) (fun _ _ _ => rfl) rf_91_3 ?_
  refine g_iload_n dX9_together_17 rfl ?_
  refine g_bipush dX9_together_18 rfl ?_
  refine g_imul dX9_together_20 ?_
  refine g_iload_n dX9_together_21 rfl ?_
  refine g_iconst dX9_together_22 ?_
  refine g_ishr dX9_together_23 ?_
  refine g_iadd dX9_together_24 ?_
  obtain ⟨o2, w⟩ := w
  refine g_iald dX9_together_25 sh_94 (al_94 hn) (Nat.le_of_ble_eq_true rfl) o2 ?_
  obtain ⟨o3, w⟩ := w
  obtain ⟨o4, w⟩ := w
  refine g_cmp_ne (tgt := 33) dX9_together_26 rfl o3 o4 ?_
  refine ite_imp (fun w => ?_) (fun w => ?_) w
  · refine g_iconst dX9_together_33 ?_
    exact g_retZ dX9_together_34 rfl (Or.inl rfl) w
  · refine g_iconst dX9_together_29 ?_
    refine g_goto (tgt := 34) dX9_together_30 rfl ?_
    exact g_retZ dX9_together_34 rfl (Or.inr rfl) w
theorem e_X9_apart {l : Launch} {D : Nat} {ζ : ZP} {h : HI} {Q : Int → HI → Prop} {x1 x2 x3 : Int} (hn : 144 ≤ ζ.2.2.2.2) (w : (0 ≤ ((x1 * 60) + (bshr x2 1)) ∧ ((x1 * 60) + (bshr x2 1)) < 780) ∧ (0 ≤ ((x1 * 60) + (bshr x3 1)) ∧ ((x1 * 60) + (bshr x3 1)) < 780) ∧ Q ((((h 95 ((x1 * 60) + (bshr x2 1))) + (band x2 1)) - (h 95 ((x1 * 60) + (bshr x3 1)))) - (band x3 1)) h) : RtI l (D + 1) mX9_apart (zz ζ) [aP 91, aI x1, aI x2, aI x3] h Q := by
  refine RtI.of 0 pn_X9 [aP 91, aI x1, aI x2, aI x3] rfl rfl ?_
  refine g_aload_n dX9_apart_0 rfl ?_
  refine g_getR dX9_apart_1 fl_X9_23 sh_91 (al_91 hn) (fun _ _ _ => rfl) rf_91_4 ?_
  refine g_iload_n dX9_apart_4 rfl ?_
  refine g_bipush dX9_apart_5 rfl ?_
  refine g_imul dX9_apart_7 ?_
  refine g_iload_n dX9_apart_8 rfl ?_
  refine g_iconst dX9_apart_9 ?_
  refine g_ishr dX9_apart_10 ?_
  refine g_iadd dX9_apart_11 ?_
  obtain ⟨o1, w⟩ := w
  refine g_iald dX9_apart_12 sh_95 (al_95 hn) (Nat.le_of_ble_eq_true rfl) o1 ?_
  refine g_iload_n dX9_apart_13 rfl ?_
  refine g_iconst dX9_apart_14 ?_
  refine g_iand dX9_apart_15 ?_
  refine g_iadd dX9_apart_16 ?_
  refine g_aload_n dX9_apart_17 rfl ?_
  refine g_getR dX9_apart_18 fl_X9_23 sh_91 (al_91 hn) (fun _ _ _ => rfl) rf_91_4 ?_
  refine g_iload_n dX9_apart_21 rfl ?_
  refine g_bipush dX9_apart_22 rfl ?_
  refine g_imul dX9_apart_24 ?_
  refine g_iload_n dX9_apart_25 rfl ?_
  refine g_iconst dX9_apart_26 ?_
  refine g_ishr dX9_apart_27 ?_
  refine g_iadd dX9_apart_28 ?_
  obtain ⟨o2, w⟩ := w
  refine g_iald dX9_apart_29 sh_95 (al_95 hn) (Nat.le_of_ble_eq_true rfl) o2 ?_
  refine g_isub dX9_apart_30 ?_
  refine g_iload_n dX9_apart_31 rfl ?_
  refine g_iconst dX9_apart_32 ?_
  refine g_iand dX9_apart_33 ?_
  refine g_isub dX9_apart_34 ?_
  exact g_retI dX9_apart_35 rfl w
