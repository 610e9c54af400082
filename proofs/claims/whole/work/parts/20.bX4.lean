theorem e_X4_start {l : Launch} {D : Nat} {ζ : ZP} {h : HI} {Q : HI → Prop} {x1 x2 : Int} (hn : 144 ≤ ζ.2.2.2.2) (w : Q (hu (hu h 70 0 x1) 70 4 x2)) : RtV l (D + 1) mX4_start (zz ζ) [aP 70, aI x1, aI x2] h Q := by
  refine RtV.of 0 pn_X4 [aP 70, aI x1, aI x2] rfl rfl ?_
  refine g_aload_n dX4_start_0 rfl ?_
  refine g_iload_n dX4_start_1 rfl ?_
  refine g_putI (J := 0) dX4_start_2 fl_X4_22 sh_70 (al_70 hn) rfl rfl ?_
  refine g_aload_n dX4_start_5 rfl ?_
  refine g_iload_n dX4_start_6 rfl ?_
  refine g_putI (J := 4) dX4_start_7 fl_X4_26 sh_70 (al_70 hn) rfl rfl ?_
  exact g_retV dX4_start_10 rfl w
theorem b_X4_find_4 {l : Launch} {D : Nat} {ζ : ZP} {h : HI} {Q : HI → Prop} {x1 x2 : Int} (hn : 144 ≤ ζ.2.2.2.2) (w : (rg x2) ∧ (rg (h 70 0)) ∧ (if (h 70 0) ≤ x2 then (G l (D + 1) 0 0 mX4_find (zz ζ) 29 [aP 70, aI x1, aI 0] [] h (qV (zz ζ) Q)) else ((0 ≤ x2 ∧ x2 < 9) ∧ G l (D + 1) 0 0 mX4_find (zz ζ) 4 [aP 70, aI (x1 + (h 71 x2)), aI (x2 + 1)] [] h (qV (zz ζ) Q)))) : G l (D + 1) 0 0 mX4_find (zz ζ) 4 [aP 70, aI x1, aI x2] [] h (qV (zz ζ) Q) := by
  refine g_iload_n dX4_find_4 rfl ?_
  refine g_aload_n dX4_find_5 rfl ?_
  refine g_getI (J := 0) dX4_find_6 fl_X4_22 sh_70 (al_70 hn) (fun _ _ _ => rfl) rfl ?_
  obtain ⟨o1, w⟩ := w
  obtain ⟨o2, w⟩ := w
  refine g_cmp_ge (tgt := 27) dX4_find_9 rfl o1 o2 ?_
  refine ite_imp (fun w => ?_) (fun w => ?_) w
  · refine g_iconst dX4_find_27 ?_
    refine g_istore_n (ls' := [aP 70, aI x1, aI 0]) dX4_find_28 (Nat.le_of_ble_eq_true rfl) rfl rfl ?_
    exact g_sub (ls' := [aP 70, aI x1, aI 0]) ⟨Or.inr rfl, Or.inr rfl, Or.inr rfl, trivial⟩ w
  · refine g_iload_n dX4_find_12 rfl ?_
    refine g_aload_n dX4_find_13 rfl ?_
    refine g_getR dX4_find_14 fl_X4_9 sh_70 (al_70 hn) (fun _ _ _ => rfl) rf_70_1 ?_
    refine g_iload_n dX4_find_17 rfl ?_
    obtain ⟨o3, w⟩ := w
    refine g_iald dX4_find_18 sh_71 (al_71 hn) (Nat.le_of_ble_eq_true rfl) o3 ?_
    refine g_iadd dX4_find_19 ?_
    refine g_istore_n (ls' := [aP 70, aI (x1 + (h 71 x2)), aI x2]) dX4_find_20 (Nat.le_of_ble_eq_true rfl) rfl rfl ?_
    refine g_iinc (ls' := [aP 70, aI (x1 + (h 71 x2)), aI (x2 + 1)]) dX4_find_21 rfl (Nat.le_of_ble_eq_true rfl) rfl rfl ?_
    refine g_goto (tgt := 4) dX4_find_24 rfl ?_
    exact g_sub (ls' := [aP 70, aI (x1 + (h 71 x2)), aI (x2 + 1)]) ⟨Or.inr rfl, Or.inr rfl, Or.inr rfl, trivial⟩ w
theorem b_X4_find_29 {l : Launch} {D : Nat} {ζ : ZP} {h : HI} {Q : HI → Prop} {x1 x2 : Int} (hn : 144 ≤ ζ.2.2.2.2) (w : (rg x2) ∧ (rg (h 70 4)) ∧ (if (h 70 4) ≤ x2 then (RtI l D mX11_cut (zz ζ) [aI ((x1 + (h 70 4)) - 1), aI (h 70 4)] h (fun r1 h1 => RtV l D mX4_place (zz ζ) [aP 70, aI 0, aI 0] (hu (hu h1 70 5 r1) 70 3 (x1 + 1)) (fun h2 => Q h2))) else ((0 ≤ x2 ∧ x2 < 4) ∧ G l (D + 1) 0 0 mX4_find (zz ζ) 29 [aP 70, aI x1, aI (x2 + 1)] [] (hu h 74 x2 0) (qV (zz ζ) Q)))) : G l (D + 1) 0 0 mX4_find (zz ζ) 29 [aP 70, aI x1, aI x2] [] h (qV (zz ζ) Q) := by
  refine g_iload_n dX4_find_29 rfl ?_
  refine g_aload_n dX4_find_30 rfl ?_
  refine g_getI (J := 4) dX4_find_31 fl_X4_26 sh_70 (al_70 hn) (fun _ _ _ => rfl) rfl ?_
  obtain ⟨o1, w⟩ := w
  obtain ⟨o2, w⟩ := w
  refine g_cmp_ge (tgt := 50) dX4_find_34 rfl o1 o2 ?_
  refine ite_imp (fun w => ?_) (fun w => ?_) w
  · refine g_aload_n dX4_find_50 rfl ?_
    refine g_iload_n dX4_find_51 rfl ?_
    refine g_aload_n dX4_find_52 rfl ?_
    refine g_getI (J := 4) dX4_find_53 fl_X4_26 sh_70 (al_70 hn) (fun _ _ _ => rfl) rfl ?_
    refine g_iadd dX4_find_56 ?_
    refine g_iconst dX4_find_57 ?_
    refine g_isub dX4_find_58 ?_
    refine g_aload_n dX4_find_59 rfl ?_
    refine g_getI (J := 4) dX4_find_60 fl_X4_26 sh_70 (al_70 hn) (fun _ _ _ => rfl) rfl ?_
    refine g_callSNI (n := 2) (As := [aI ((x1 + (h 70 4)) - 1), aI (h 70 4)]) (st := [aP 70]) dX4_find_63 ml_X4_29 rfl rfl (Nat.le_of_ble_eq_true rfl) (RtI.mono w (fun r1 h1 w => ?_))
    refine g_putI (J := 5) dX4_find_66 fl_X4_35 sh_70 (al_70 hn) rfl rfl ?_
    refine g_aload_n dX4_find_69 rfl ?_
    refine g_iload_n dX4_find_70 rfl ?_
    refine g_iconst dX4_find_71 ?_
    refine g_iadd dX4_find_72 ?_
    refine g_putI (J := 3) dX4_find_73 fl_X4_38 sh_70 (al_70 hn) rfl rfl ?_
    refine g_aload_n dX4_find_76 rfl ?_
    refine g_iconst dX4_find_77 ?_
    refine g_iconst dX4_find_78 ?_
    refine g_callVV (n := 2) (As := [aI 0, aI 0]) (st := []) dX4_find_79 ml_X4_41 sh_70 rfl (al_70 hn) rfl rfl (Nat.le_of_ble_eq_true rfl) (RtV.mono w (fun h2 w => ?_))
    exact g_retV dX4_find_82 rfl w
  · refine g_aload_n dX4_find_37 rfl ?_
    refine g_getR dX4_find_38 fl_X4_19 sh_70 (al_70 hn) (fun _ _ _ => rfl) rf_70_7 ?_
    refine g_iload_n dX4_find_41 rfl ?_
    refine g_iconst dX4_find_42 ?_
    obtain ⟨o3, w⟩ := w
    refine g_iast dX4_find_43 sh_74 (al_74 hn) (Nat.le_of_ble_eq_true rfl) o3 ?_
    refine g_iinc (ls' := [aP 70, aI x1, aI (x2 + 1)]) dX4_find_44 rfl (Nat.le_of_ble_eq_true rfl) rfl rfl ?_
    refine g_goto (tgt := 29) dX4_find_47 rfl ?_
    exact g_sub (ls' := [aP 70, aI x1, aI (x2 + 1)]) ⟨Or.inr rfl, Or.inr rfl, Or.inr rfl, trivial⟩ w
theorem e_X4_find {l : Launch} {D : Nat} {ζ : ZP} {h : HI} {Q : HI → Prop} (hn : 144 ≤ ζ.2.2.2.2) (w : G l (D + 1) 0 0 mX4_find (zz ζ) 4 [aP 70, aI 0, aI 0] [] h (qV (zz ζ) Q)) : RtV l (D + 1) mX4_find (zz ζ) [aP 70] h Q := by
  refine RtV.of 2 pn_X4 [aP 70, aU, aU] rfl rfl ?_
  refine g_iconst dX4_find_0 ?_
  refine g_istore_n (ls' := [aP 70, aI 0, aU]) dX4_find_1 (Nat.le_of_ble_eq_true rfl) rfl rfl ?_
  refine g_iconst dX4_find_2 ?_
  refine g_istore_n (ls' := [aP 70, aI 0, aI 0]) dX4_find_3 (Nat.le_of_ble_eq_true rfl) rfl rfl ?_
  exact g_sub (ls' := [aP 70, aI 0, aI 0]) ⟨Or.inr rfl, Or.inr rfl, Or.inr rfl, trivial⟩ w
theorem b_X4_place_15 {l : Launch} {D : Nat} {ζ : ZP} {h : HI} {Q : HI → Prop} {x1 x2 x3 : Int} (hn : 144 ≤ ζ.2.2.2.2) (w : (rg x3) ∧ (rg x2) ∧ (if x2 < x3 then (Q h) else ((rg (h 70 4)) ∧ (if (h 70 4) ≤ x3 then (Q h) else ((rg (h 70 3)) ∧ (rg (h 70 5)) ∧ (if (h 70 3) ≤ (h 70 5) then (Q h) else ((0 ≤ x3 ∧ x3 < 4) ∧ (0 ≤ x1 ∧ x1 < 9) ∧ (rg ((h 74 x3) + (h 71 x1))) ∧ (if (h 70 3) ≤ ((h 74 x3) + (h 71 x1)) then (G l (D + 1) 0 0 mX4_place (zz ζ) 15 [aP 70, aI x1, aI x2, aI (x3 + 1)] [] h (qV (zz ζ) Q)) else (if ¬ x3 = x2 then (RtV l D mX4_place (zz ζ) [aP 70, aI (x1 + 1), aI x2] (hu (hu h 73 x1 x3) 74 x3 ((h 74 x3) + (h 71 x1))) (fun h1 => G l (D + 1) 0 0 mX4_place (zz ζ) 15 [aP 70, aI x1, aI x2, aI (x3 + 1)] [] (hu h1 74 x3 ((h1 74 x3) - (h1 71 x1))) (qV (zz ζ) Q))) else (RtV l D mX4_place (zz ζ) [aP 70, aI (x1 + 1), aI (x2 + 1)] (hu (hu h 73 x1 x3) 74 x3 ((h 74 x3) + (h 71 x1))) (fun h2 => G l (D + 1) 0 0 mX4_place (zz ζ) 15 [aP 70, aI x1, aI x2, aI (x3 + 1)] [] (hu h2 74 x3 ((h2 74 x3) - (h2 71 x1))) (qV (zz ζ) Q)))))))))))) : G l (D + 1) 0 0 mX4_place (zz ζ) 15 [aP 70, aI x1, aI x2, aI x3] [] h (qV (zz ζ) Q) := by
  refine g_iload_n dX4_place_15 rfl ?_
  refine g_iload_n dX4_place_16 rfl ?_
  obtain ⟨o1, w⟩ := w
  obtain ⟨o2, w⟩ := w
  refine g_cmp_gt (tgt := 121) dX4_place_17 rfl o1 o2 ?_
  refine ite_imp (fun w => ?_) (fun w => ?_) w
  · exact g_retV dX4_place_121 rfl w
  · refine g_iload_n dX4_place_20 rfl ?_
    refine g_aload_n dX4_place_21 rfl ?_
    refine g_getI (J := 4) dX4_place_22 fl_X4_26 sh_70 (al_70 hn) (fun _ _ _ => rfl) rfl ?_
    obtain ⟨o3, w⟩ := w
    refine g_cmp_ge (tgt := 121) dX4_place_25 rfl o1 o3 ?_
    refine ite_imp (fun w => ?_) (fun w => ?_) w
    · exact g_retV dX4_place_121 rfl w
    · refine g_aload_n dX4_place_28 rfl ?_
      refine g_getI (J := 3) dX4_place_29 fl_X4_38 sh_70 (al_70 hn) (fun _ _ _ => rfl) rfl ?_
      refine g_aload_n dX4_place_32 rfl ?_
      refine g_getI (J := 5) dX4_place_33 fl_X4_35 sh_70 (al_70 hn) (fun _ _ _ => rfl) rfl ?_
      obtain ⟨o4, w⟩ := w
      obtain ⟨o5, w⟩ := w
      refine g_cmp_le (tgt := 121) dX4_place_36 rfl o4 o5 ?_
      refine ite_imp (fun w => ?_) (fun w => ?_) w
      · exact g_retV dX4_place_121 rfl w
      · refine g_aload_n dX4_place_39 rfl ?_
        refine g_getR dX4_place_40 fl_X4_19 sh_70 (al_70 hn) (fun _ _ _ => rfl) rf_70_7 ?_
        refine g_iload_n dX4_place_43 rfl ?_
        obtain ⟨o6, w⟩ := w
        refine g_iald dX4_place_44 sh_74 (al_74 hn) (Nat.le_of_ble_eq_true rfl) o6 ?_
        refine g_aload_n dX4_place_45 rfl ?_
        refine g_getR dX4_place_46 fl_X4_9 sh_70 (al_70 hn) (fun _ _ _ => rfl) rf_70_1 ?_
        refine g_iload_n dX4_place_49 rfl ?_
        obtain ⟨o7, w⟩ := w
        refine g_iald dX4_place_50 sh_71 (al_71 hn) (Nat.le_of_ble_eq_true rfl) o7 ?_
        refine g_iadd dX4_place_51 ?_
        refine g_aload_n dX4_place_52 rfl ?_
        refine g_getI (J := 3) dX4_place_53 fl_X4_38 sh_70 (al_70 hn) (fun _ _ _ => rfl) rfl ?_
        obtain ⟨o8, w⟩ := w
        refine g_cmp_ge (tgt := 115) dX4_place_56 rfl o8 o4 ?_
        refine ite_imp (fun w => ?_) (fun w => ?_) w
        · refine g_iinc (ls' := [aP 70, aI x1, aI x2, aI (x3 + 1)]) dX4_place_115 rfl (Nat.le_of_ble_eq_true rfl) rfl rfl ?_
          refine g_goto (tgt := 15) dX4_place_118 rfl ?_
          exact g_sub (ls' := [aP 70, aI x1, aI x2, aI (x3 + 1)]) ⟨Or.inr rfl, Or.inr rfl, Or.inr rfl, Or.inr rfl, trivial⟩ w
        · refine g_aload_n dX4_place_59 rfl ?_
          refine g_getR dX4_place_60 fl_X4_16 sh_70 (al_70 hn) (fun _ _ _ => rfl) rf_70_6 ?_
          refine g_iload_n dX4_place_63 rfl ?_
          refine g_iload_n dX4_place_64 rfl ?_
          refine g_iast dX4_place_65 sh_73 (al_73 hn) (Nat.le_of_ble_eq_true rfl) o7 ?_
          refine g_aload_n dX4_place_66 rfl ?_
          refine g_getR dX4_place_67 fl_X4_19 sh_70 (al_70 hn) (fun _ _ _ => rfl) rf_70_7 ?_
          refine g_iload_n dX4_place_70 rfl ?_
          refine g_dup2 dX4_place_71 rfl rfl ?_
          refine g_iald dX4_place_72 sh_74 (al_74 hn) (Nat.le_of_ble_eq_true rfl) o6 ?_
          refine g_aload_n dX4_place_73 rfl ?_
          refine g_getR dX4_place_74 fl_X4_9 sh_70 (al_70 hn) (fun _ _ _ => rfl) rf_70_1 ?_
          refine g_iload_n dX4_place_77 rfl ?_
          refine g_iald dX4_place_78 sh_71 (al_71 hn) (Nat.le_of_ble_eq_true rfl) o7 ?_
          refine g_iadd dX4_place_79 ?_
          refine g_iast dX4_place_80 sh_74 (al_74 hn) (Nat.le_of_ble_eq_true rfl) o6 ?_
          refine g_aload_n dX4_place_81 rfl ?_
          refine g_iload_n dX4_place_82 rfl ?_
          refine g_iconst dX4_place_83 ?_
          refine g_iadd dX4_place_84 ?_
          refine g_iload_n dX4_place_85 rfl ?_
          refine g_iload_n dX4_place_86 rfl ?_
          refine g_cmp_ne (tgt := 96) dX4_place_87 rfl o1 o2 ?_
          refine ite_imp (fun w => ?_) (fun w => ?_) w
          · refine g_iload_n dX4_place_96 rfl ?_
            refine g_callVV (n := 2) (As := [aI (x1 + 1), aI x2]) (st := []) dX4_place_97 ml_X4_41 sh_70 rfl (al_70 hn) rfl rfl (Nat.le_of_ble_eq_true rfl) (RtV.mono w (fun h1 w => ?_))
            refine g_aload_n dX4_place_100 rfl ?_
            refine g_getR dX4_place_101 fl_X4_19 sh_70 (al_70 hn) (fun _ _ _ => rfl) rf_70_7 ?_
            refine g_iload_n dX4_place_104 rfl ?_
            refine g_dup2 dX4_place_105 rfl rfl ?_
            refine g_iald dX4_place_106 sh_74 (al_74 hn) (Nat.le_of_ble_eq_true rfl) o6 ?_
            refine g_aload_n dX4_place_107 rfl ?_
            refine g_getR dX4_place_108 fl_X4_9 sh_70 (al_70 hn) (fun _ _ _ => rfl) rf_70_1 ?_
            refine g_iload_n dX4_place_111 rfl ?_
            refine g_iald dX4_place_112 sh_71 (al_71 hn) (Nat.le_of_ble_eq_true rfl) o7 ?_
            refine g_isub dX4_place_113 ?_
            refine g_iast dX4_place_114 sh_74 (al_74 hn) (Nat.le_of_ble_eq_true rfl) o6 ?_
            refine g_iinc (ls' := [aP 70, aI x1, aI x2, aI (x3 + 1)]) dX4_place_115 rfl (Nat.le_of_ble_eq_true rfl) rfl rfl ?_
            refine g_goto (tgt := 15) dX4_place_118 rfl ?_
            exact g_sub (ls' := [aP 70, aI x1, aI x2, aI (x3 + 1)]) ⟨Or.inr rfl, Or.inr rfl, Or.inr rfl, Or.inr rfl, trivial⟩ w
          · refine g_iload_n dX4_place_90 rfl ?_
            refine g_iconst dX4_place_91 ?_
            refine g_iadd dX4_place_92 ?_
            refine g_goto (tgt := 97) dX4_place_93 rfl ?_
            refine g_callVV (n := 2) (As := [aI (x1 + 1), aI (x2 + 1)]) (st := []) dX4_place_97 ml_X4_41 sh_70 rfl (al_70 hn) rfl rfl (Nat.le_of_ble_eq_true rfl) (RtV.mono w (fun h2 w => ?_))
            refine g_aload_n dX4_place_100 rfl ?_
            refine g_getR dX4_place_101 fl_X4_19 sh_70 (al_70 hn) (fun _ _ _ => rfl) rf_70_7 ?_
            refine g_iload_n dX4_place_104 rfl ?_
            refine g_dup2 dX4_place_105 rfl rfl ?_
            refine g_iald dX4_place_106 sh_74 (al_74 hn) (Nat.le_of_ble_eq_true rfl) o6 ?_
            refine g_aload_n dX4_place_107 rfl ?_
            refine g_getR dX4_place_108 fl_X4_9 sh_70 (al_70 hn) (fun _ _ _ => rfl) rf_70_1 ?_
            refine g_iload_n dX4_place_111 rfl ?_
            refine g_iald dX4_place_112 sh_71 (al_71 hn) (Nat.le_of_ble_eq_true rfl) o7 ?_
            refine g_isub dX4_place_113 ?_
            refine g_iast dX4_place_114 sh_74 (al_74 hn) (Nat.le_of_ble_eq_true rfl) o6 ?_
            refine g_iinc (ls' := [aP 70, aI x1, aI x2, aI (x3 + 1)]) dX4_place_115 rfl (Nat.le_of_ble_eq_true rfl) rfl rfl ?_
            refine g_goto (tgt := 15) dX4_place_118 rfl ?_
            exact g_sub (ls' := [aP 70, aI x1, aI x2, aI (x3 + 1)]) ⟨Or.inr rfl, Or.inr rfl, Or.inr rfl, Or.inr rfl, trivial⟩ w
theorem e_X4_place {l : Launch} {D : Nat} {ζ : ZP} {h : HI} {Q : HI → Prop} {x1 x2 : Int} (hn : 144 ≤ ζ.2.2.2.2) (w : (rg x1) ∧ (rg (h 70 0)) ∧ (if x1 < (h 70 0) then (G l (D + 1) 0 0 mX4_place (zz ζ) 15 [aP 70, aI x1, aI x2, aI 0] [] h (qV (zz ζ) Q)) else (RtV l D mX4_take (zz ζ) [aP 70] h (fun h1 => Q h1)))) : RtV l (D + 1) mX4_place (zz ζ) [aP 70, aI x1, aI x2] h Q := by
  refine RtV.of 1 pn_X4 [aP 70, aI x1, aI x2, aU] rfl rfl ?_
  refine g_iload_n dX4_place_0 rfl ?_
  refine g_aload_n dX4_place_1 rfl ?_
  refine g_getI (J := 0) dX4_place_2 fl_X4_22 sh_70 (al_70 hn) (fun _ _ _ => rfl) rfl ?_
  obtain ⟨o1, w⟩ := w
  obtain ⟨o2, w⟩ := w
  refine g_cmp_lt (tgt := 13) dX4_place_5 rfl o1 o2 ?_
  refine ite_imp (fun w => ?_) (fun w => ?_) w
  · refine g_iconst dX4_place_13 ?_
    refine g_istore_n (ls' := [aP 70, aI x1, aI x2, aI 0]) dX4_place_14 (Nat.le_of_ble_eq_true rfl) rfl rfl ?_
    exact g_sub (ls' := [aP 70, aI x1, aI x2, aI 0]) ⟨Or.inr rfl, Or.inr rfl, Or.inr rfl, Or.inr rfl, trivial⟩ w
  · refine g_aload_n dX4_place_8 rfl ?_
    refine g_callVV (n := 0) (As := []) (st := []) dX4_place_9 ml_X4_45 sh_70 rfl (al_70 hn) rfl rfl (Nat.le_of_ble_eq_true rfl) (RtV.mono w (fun h1 w => ?_))
    exact g_retV dX4_place_12 rfl w
theorem b_X4_take_4 {l : Launch} {D : Nat} {ζ : ZP} {h : HI} {Q : HI → Prop} {x1 x2 : Int} (hn : 144 ≤ ζ.2.2.2.2) (w : (rg x2) ∧ (rg (h 70 4)) ∧ (if (h 70 4) ≤ x2 then ((rg x1) ∧ (rg (h 70 3)) ∧ (if (h 70 3) ≤ x1 then (Q h) else (((0 : Int) ≤ 0 ∧ (0 : Int) ≤ 0 ∧ (0 : Int) ≤ (h 70 0) ∧ 0 + (h 70 0) ≤ 9 ∧ 0 + (h 70 0) ≤ 9) ∧ Q (hcp (hu h 70 3 x1) 73 0 72 0 (h 70 0))))) else ((0 ≤ x2 ∧ x2 < 4) ∧ (rg x1) ∧ (rg (h 74 x2)) ∧ G l (D + 1) 0 0 mX4_take (zz ζ) 4 [aP 70, aI (max x1 (h 74 x2)), aI (x2 + 1)] [] h (qV (zz ζ) Q)))) : G l (D + 1) 0 0 mX4_take (zz ζ) 4 [aP 70, aI x1, aI x2] [] h (qV (zz ζ) Q) := by
  refine g_iload_n dX4_take_4 rfl ?_
  refine g_aload_n dX4_take_5 rfl ?_
  refine g_getI (J := 4) dX4_take_6 fl_X4_26 sh_70 (al_70 hn) (fun _ _ _ => rfl) rfl ?_
  obtain ⟨o1, w⟩ := w
  obtain ⟨o2, w⟩ := w
  refine g_cmp_ge (tgt := 29) dX4_take_9 rfl o1 o2 ?_
  refine ite_imp (fun w => ?_) (fun w => ?_) w
  · refine g_iload_n dX4_take_29 rfl ?_
    refine g_aload_n dX4_take_30 rfl ?_
    refine g_getI (J := 3) dX4_take_31 fl_X4_38 sh_70 (al_70 hn) (fun _ _ _ => rfl) rfl ?_
    obtain ⟨o3, w⟩ := w
    obtain ⟨o4, w⟩ := w
    refine g_cmp_ge (tgt := 59) dX4_take_34 rfl o3 o4 ?_
    refine ite_imp (fun w => ?_) (fun w => ?_) w
    · exact g_retV dX4_take_59 rfl w
    · refine g_aload_n dX4_take_37 rfl ?_
      refine g_iload_n dX4_take_38 rfl ?_
      refine g_putI (J := 3) dX4_take_39 fl_X4_38 sh_70 (al_70 hn) rfl rfl ?_
      refine g_aload_n dX4_take_42 rfl ?_
      refine g_getR dX4_take_43 fl_X4_16 sh_70 (al_70 hn) (fun _ _ _ => rfl) rf_70_6 ?_
      refine g_iconst dX4_take_46 ?_
      refine g_aload_n dX4_take_47 rfl ?_
      refine g_getR dX4_take_48 fl_X4_13 sh_70 (al_70 hn) (fun _ _ _ => rfl) rf_70_2 ?_
      refine g_iconst dX4_take_51 ?_
      refine g_aload_n dX4_take_52 rfl ?_
      refine g_getI (J := 0) dX4_take_53 fl_X4_22 sh_70 (al_70 hn) (fun _ _ _ => rfl) rfl ?_
      obtain ⟨o5, w⟩ := w
      refine g_copy dX4_take_56 cw_X4_53 (Nat.le_of_ble_eq_true rfl) sh_73 (al_73 hn) sh_72 (al_72 hn) (Nat.le_of_ble_eq_true rfl) (Nat.le_of_ble_eq_true rfl) o5 ?_
      exact g_retV dX4_take_59 rfl w
  · refine g_iload_n dX4_take_12 rfl ?_
    refine g_aload_n dX4_take_13 rfl ?_
    refine g_getR dX4_take_14 fl_X4_19 sh_70 (al_70 hn) (fun _ _ _ => rfl) rf_70_7 ?_
    refine g_iload_n dX4_take_17 rfl ?_
    obtain ⟨o6, w⟩ := w
    refine g_iald dX4_take_18 sh_74 (al_74 hn) (Nat.le_of_ble_eq_true rfl) o6 ?_
    obtain ⟨o7, w⟩ := w
    obtain ⟨o8, w⟩ := w
    refine g_max dX4_take_19 mm_X4_48 (Nat.le_of_ble_eq_true rfl) o7 o8 ?_
    refine g_istore_n (ls' := [aP 70, aI (max x1 (h 74 x2)), aI x2]) dX4_take_22 (Nat.le_of_ble_eq_true rfl) rfl rfl ?_
    refine g_iinc (ls' := [aP 70, aI (max x1 (h 74 x2)), aI (x2 + 1)]) dX4_take_23 rfl (Nat.le_of_ble_eq_true rfl) rfl rfl ?_
    refine g_goto (tgt := 4) dX4_take_26 rfl ?_
    exact g_sub (ls' := [aP 70, aI (max x1 (h 74 x2)), aI (x2 + 1)]) ⟨Or.inr rfl, Or.inr rfl, Or.inr rfl, trivial⟩ w
theorem e_X4_take {l : Launch} {D : Nat} {ζ : ZP} {h : HI} {Q : HI → Prop} (hn : 144 ≤ ζ.2.2.2.2) (w : G l (D + 1) 0 0 mX4_take (zz ζ) 4 [aP 70, aI 0, aI 0] [] h (qV (zz ζ) Q)) : RtV l (D + 1) mX4_take (zz ζ) [aP 70] h Q := by
  refine RtV.of 2 pn_X4 [aP 70, aU, aU] rfl rfl ?_
  refine g_iconst dX4_take_0 ?_
  refine g_istore_n (ls' := [aP 70, aI 0, aU]) dX4_take_1 (Nat.le_of_ble_eq_true rfl) rfl rfl ?_
  refine g_iconst dX4_take_2 ?_
  refine g_istore_n (ls' := [aP 70, aI 0, aI 0]) dX4_take_3 (Nat.le_of_ble_eq_true rfl) rfl rfl ?_
  exact g_sub (ls' := [aP 70, aI 0, aI 0]) ⟨Or.inr rfl, Or.inr rfl, Or.inr rfl, trivial⟩ w
