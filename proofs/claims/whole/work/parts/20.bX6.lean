theorem e_X6_start {l : Launch} {D : Nat} {ζ : ZP} {h : HI} {Q : HI → Prop} {x1 x2 : Int} (hn : 144 ≤ ζ.2.2.2.2) (w : Q (hu (hu (hu h 65 0 x1) 65 7 x2) 65 6 0)) : RtV l (D + 1) mX6_start (zz ζ) [aP 65, aI x1, aI x2] h Q := by
  refine RtV.of 0 pn_X6 [aP 65, aI x1, aI x2] rfl rfl ?_
  refine g_aload_n dX6_start_0 rfl ?_
  refine g_iload_n dX6_start_1 rfl ?_
  refine g_putI (J := 0) dX6_start_2 fl_X6_22 sh_65 (al_65 hn) rfl rfl ?_
  refine g_aload_n dX6_start_5 rfl ?_
  refine g_iload_n dX6_start_6 rfl ?_
  refine g_putI (J := 7) dX6_start_7 fl_X6_26 sh_65 (al_65 hn) rfl rfl ?_
  refine g_aload_n dX6_start_10 rfl ?_
  refine g_iconst dX6_start_11 ?_
  refine g_putI (J := 6) dX6_start_12 fl_X6_29 sh_65 (al_65 hn) rfl rfl ?_
  exact g_retV dX6_start_15 rfl w
theorem b_X6_find_12 {l : Launch} {D : Nat} {ζ : ZP} {h : HI} {Q : HI → Prop} {x1 : Int} (hn : 144 ≤ ζ.2.2.2.2) (w : (rg x1) ∧ (if x1 ≤ 0 then (Q h) else (RtI l D mX6_exchangeFirst (zz ζ) [aP 65] h (fun r1 h1 => (rg r1) ∧ (if r1 = 0 then (Q h1) else (RtV l D mX6_measure (zz ζ) [aP 65] (hu h1 65 6 ((h1 65 6) + 1)) (fun h2 => G l (D + 1) 0 0 mX6_find (zz ζ) 12 [aP 65, aI (x1 + (-1))] [] h2 (qV (zz ζ) Q)))))))) : G l (D + 1) 0 0 mX6_find (zz ζ) 12 [aP 65, aI x1] [] h (qV (zz ζ) Q) := by
  refine g_iload_n dX6_find_12 rfl ?_
  obtain ⟨o1, w⟩ := w
  refine g_if_le (tgt := 43) dX6_find_13 rfl o1 ?_
  refine ite_imp (fun w => ?_) (fun w => ?_) w
  · exact g_retV dX6_find_43 rfl w
  · refine g_aload_n dX6_find_16 rfl ?_
    refine g_callVI (n := 0) (As := []) (st := []) dX6_find_17 ml_X6_38 sh_65 rfl (al_65 hn) rfl rfl (Nat.le_of_ble_eq_true rfl) (RtI.mono w (fun r1 h1 w => ?_))
    obtain ⟨o2, w⟩ := w
    refine g_if_eq (tgt := 43) dX6_find_20 rfl o2 ?_
    refine ite_imp (fun w => ?_) (fun w => ?_) w
    · exact g_retV dX6_find_43 rfl w
    · refine g_aload_n dX6_find_23 rfl ?_
      refine g_dup dX6_find_24 rfl ?_
      refine g_getI (J := 6) dX6_find_25 fl_X6_29 sh_65 (al_65 hn) (fun _ _ _ => rfl) rfl ?_
      refine g_iconst dX6_find_28 ?_
      refine g_iadd dX6_find_29 ?_
      refine g_putI (J := 6) dX6_find_30 fl_X6_29 sh_65 (al_65 hn) rfl rfl ?_
      refine g_aload_n dX6_find_33 rfl ?_
      refine g_callVV (n := 0) (As := []) (st := []) dX6_find_34 ml_X6_35 sh_65 rfl (al_65 hn) rfl rfl (Nat.le_of_ble_eq_true rfl) (RtV.mono w (fun h2 w => ?_))
      refine g_iinc (ls' := [aP 65, aI (x1 + (-1))]) dX6_find_37 rfl (Nat.le_of_ble_eq_true rfl) rfl rfl ?_
      refine g_goto (tgt := 12) dX6_find_40 rfl ?_
      exact g_sub (ls' := [aP 65, aI (x1 + (-1))]) ⟨Or.inr rfl, Or.inr rfl, trivial⟩ w
theorem e_X6_find {l : Launch} {D : Nat} {ζ : ZP} {h : HI} {Q : HI → Prop} (hn : 144 ≤ ζ.2.2.2.2) (w : RtV l D mX6_deal (zz ζ) [aP 65] h (fun h1 => RtV l D mX6_measure (zz ζ) [aP 65] h1 (fun h2 => G l (D + 1) 0 0 mX6_find (zz ζ) 12 [aP 65, aI 500] [] h2 (qV (zz ζ) Q)))) : RtV l (D + 1) mX6_find (zz ζ) [aP 65] h Q := by
  refine RtV.of 1 pn_X6 [aP 65, aU] rfl rfl ?_
  refine g_aload_n dX6_find_0 rfl ?_
  refine g_callVV (n := 0) (As := []) (st := []) dX6_find_1 ml_X6_32 sh_65 rfl (al_65 hn) rfl rfl (Nat.le_of_ble_eq_true rfl) (RtV.mono w (fun h1 w => ?_))
  refine g_aload_n dX6_find_4 rfl ?_
  refine g_callVV (n := 0) (As := []) (st := []) dX6_find_5 ml_X6_35 sh_65 rfl (al_65 hn) rfl rfl (Nat.le_of_ble_eq_true rfl) (RtV.mono w (fun h2 w => ?_))
  refine g_sipush dX6_find_8 rfl ?_
  refine g_istore_n (ls' := [aP 65, aI 500]) dX6_find_11 (Nat.le_of_ble_eq_true rfl) rfl rfl ?_
  exact g_sub (ls' := [aP 65, aI 500]) ⟨Or.inr rfl, Or.inr rfl, trivial⟩ w
theorem b_X6_deal_4 {l : Launch} {D : Nat} {ζ : ZP} {h : HI} {Q : HI → Prop} {x1 x2 : Int} (hn : 144 ≤ ζ.2.2.2.2) (w : (rg x2) ∧ (rg (h 65 0)) ∧ (if (h 65 0) ≤ x2 then (RtI l D mX11_cut (zz ζ) [aI x1, aI (h 65 7)] h (fun r1 h1 => G l (D + 1) 0 0 mX6_deal (zz ζ) 96 [aP 65, aU, aI 0, aU, aU, aU] [] (hu h1 65 5 r1) (qV (zz ζ) Q))) else ((0 ≤ x2 ∧ x2 < 40) ∧ G l (D + 1) 0 0 mX6_deal (zz ζ) 23 [aP 65, aI (x1 + (h 66 x2)), aI x2, aI x2, aU, aU] [] h (qV (zz ζ) Q)))) : G l (D + 1) 0 0 mX6_deal (zz ζ) 4 [aP 65, aI x1, aI x2, aU, aU, aU] [] h (qV (zz ζ) Q) := by
  refine g_iload_n dX6_deal_4 rfl ?_
  refine g_aload_n dX6_deal_5 rfl ?_
  refine g_getI (J := 0) dX6_deal_6 fl_X6_22 sh_65 (al_65 hn) (fun _ _ _ => rfl) rfl ?_
  obtain ⟨o1, w⟩ := w
  obtain ⟨o2, w⟩ := w
  refine g_cmp_ge (tgt := 82) dX6_deal_9 rfl o1 o2 ?_
  refine ite_imp (fun w => ?_) (fun w => ?_) w
  · refine g_aload_n dX6_deal_82 rfl ?_
    refine g_iload_n dX6_deal_83 rfl ?_
    refine g_aload_n dX6_deal_84 rfl ?_
    refine g_getI (J := 7) dX6_deal_85 fl_X6_26 sh_65 (al_65 hn) (fun _ _ _ => rfl) rfl ?_
    refine g_callSNI (n := 2) (As := [aI x1, aI (h 65 7)]) (st := [aP 65]) dX6_deal_88 ml_X6_42 rfl rfl (Nat.le_of_ble_eq_true rfl) (RtI.mono w (fun r1 h1 w => ?_))
    refine g_putI (J := 5) dX6_deal_91 fl_X6_48 sh_65 (al_65 hn) rfl rfl ?_
    refine g_iconst dX6_deal_94 ?_
    refine g_istore_n (ls' := [aP 65, aI x1, aI 0, aU, aU, aU]) dX6_deal_95 (Nat.le_of_ble_eq_true rfl) rfl rfl ?_
    exact g_sub (ls' := [aP 65, aU, aI 0, aU, aU, aU]) ⟨Or.inr rfl, Or.inl rfl, Or.inr rfl, Or.inl rfl, Or.inl rfl, Or.inl rfl, trivial⟩ w
  · refine g_iload_n dX6_deal_12 rfl ?_
    refine g_aload_n dX6_deal_13 rfl ?_
    refine g_getR dX6_deal_14 fl_X6_9 sh_65 (al_65 hn) (fun _ _ _ => rfl) rf_65_1 ?_
    refine g_iload_n dX6_deal_17 rfl ?_
    obtain ⟨o3, w⟩ := w
    refine g_iald dX6_deal_18 sh_66 (al_66 hn) (Nat.le_of_ble_eq_true rfl) o3 ?_
    refine g_iadd dX6_deal_19 ?_
    refine g_istore_n (ls' := [aP 65, aI (x1 + (h 66 x2)), aI x2, aU, aU, aU]) dX6_deal_20 (Nat.le_of_ble_eq_true rfl) rfl rfl ?_
    refine g_iload_n dX6_deal_21 rfl ?_
    refine g_istore_n (ls' := [aP 65, aI (x1 + (h 66 x2)), aI x2, aI x2, aU, aU]) dX6_deal_22 (Nat.le_of_ble_eq_true rfl) rfl rfl ?_
    exact g_sub (ls' := [aP 65, aI (x1 + (h 66 x2)), aI x2, aI x2, aU, aU]) ⟨Or.inr rfl, Or.inr rfl, Or.inr rfl, Or.inr rfl, Or.inl rfl, Or.inl rfl, trivial⟩ w
theorem b_X6_deal_23 {l : Launch} {D : Nat} {ζ : ZP} {h : HI} {Q : HI → Prop} {x1 x2 x3 : Int} (hn : 144 ≤ ζ.2.2.2.2) (w : (rg x3) ∧ (if x3 ≤ 0 then ((0 ≤ x3 ∧ x3 < 40) ∧ G l (D + 1) 0 0 mX6_deal (zz ζ) 4 [aP 65, aI x1, aI (x2 + 1), aU, aU, aU] [] (hu h 69 x3 x2) (qV (zz ζ) Q)) else ((0 ≤ (x3 - 1) ∧ (x3 - 1) < 40) ∧ (0 ≤ (h 69 (x3 - 1)) ∧ (h 69 (x3 - 1)) < 40) ∧ (0 ≤ x2 ∧ x2 < 40) ∧ (rg (h 66 (h 69 (x3 - 1)))) ∧ (rg (h 66 x2)) ∧ (if (h 66 x2) ≤ (h 66 (h 69 (x3 - 1))) then ((0 ≤ x3 ∧ x3 < 40) ∧ G l (D + 1) 0 0 mX6_deal (zz ζ) 4 [aP 65, aI x1, aI (x2 + 1), aU, aU, aU] [] (hu h 69 x3 x2) (qV (zz ζ) Q)) else ((0 ≤ x3 ∧ x3 < 40) ∧ G l (D + 1) 0 0 mX6_deal (zz ζ) 23 [aP 65, aI x1, aI x2, aI (x3 + (-1)), aU, aU] [] (hu h 69 x3 (h 69 (x3 - 1))) (qV (zz ζ) Q)))))) : G l (D + 1) 0 0 mX6_deal (zz ζ) 23 [aP 65, aI x1, aI x2, aI x3, aU, aU] [] h (qV (zz ζ) Q) := by
  refine g_iload_n dX6_deal_23 rfl ?_
  obtain ⟨o1, w⟩ := w
  refine g_if_le (tgt := 69) dX6_deal_24 rfl o1 ?_
  refine ite_imp (fun w => ?_) (fun w => ?_) w
  · refine g_aload_n dX6_deal_69 rfl ?_
    refine g_getR dX6_deal_70 fl_X6_19 sh_65 (al_65 hn) (fun _ _ _ => rfl) rf_65_9 ?_
    refine g_iload_n dX6_deal_73 rfl ?_
    refine g_iload_n dX6_deal_74 rfl ?_
    obtain ⟨o2, w⟩ := w
    refine g_iast dX6_deal_75 sh_69 (al_69 hn) (Nat.le_of_ble_eq_true rfl) o2 ?_
    refine g_iinc (ls' := [aP 65, aI x1, aI (x2 + 1), aI x3, aU, aU]) dX6_deal_76 rfl (Nat.le_of_ble_eq_true rfl) rfl rfl ?_
    refine g_goto (tgt := 4) dX6_deal_79 rfl ?_
    exact g_sub (ls' := [aP 65, aI x1, aI (x2 + 1), aU, aU, aU]) ⟨Or.inr rfl, Or.inr rfl, Or.inr rfl, Or.inl rfl, Or.inl rfl, Or.inl rfl, trivial⟩ w
  · refine g_aload_n dX6_deal_27 rfl ?_
    refine g_getR dX6_deal_28 fl_X6_9 sh_65 (al_65 hn) (fun _ _ _ => rfl) rf_65_1 ?_
    refine g_aload_n dX6_deal_31 rfl ?_
    refine g_getR dX6_deal_32 fl_X6_19 sh_65 (al_65 hn) (fun _ _ _ => rfl) rf_65_9 ?_
    refine g_iload_n dX6_deal_35 rfl ?_
    refine g_iconst dX6_deal_36 ?_
    refine g_isub dX6_deal_37 ?_
    obtain ⟨o3, w⟩ := w
    refine g_iald dX6_deal_38 sh_69 (al_69 hn) (Nat.le_of_ble_eq_true rfl) o3 ?_
    obtain ⟨o4, w⟩ := w
    refine g_iald dX6_deal_39 sh_66 (al_66 hn) (Nat.le_of_ble_eq_true rfl) o4 ?_
    refine g_aload_n dX6_deal_40 rfl ?_
    refine g_getR dX6_deal_41 fl_X6_9 sh_65 (al_65 hn) (fun _ _ _ => rfl) rf_65_1 ?_
    refine g_iload_n dX6_deal_44 rfl ?_
    obtain ⟨o5, w⟩ := w
    refine g_iald dX6_deal_45 sh_66 (al_66 hn) (Nat.le_of_ble_eq_true rfl) o5 ?_
    obtain ⟨o6, w⟩ := w
    obtain ⟨o7, w⟩ := w
    refine g_cmp_ge (tgt := 69) dX6_deal_46 rfl o6 o7 ?_
    refine ite_imp (fun w => ?_) (fun w => ?_) w
    · refine g_aload_n dX6_deal_69 rfl ?_
      refine g_getR dX6_deal_70 fl_X6_19 sh_65 (al_65 hn) (fun _ _ _ => rfl) rf_65_9 ?_
      refine g_iload_n dX6_deal_73 rfl ?_
      refine g_iload_n dX6_deal_74 rfl ?_
      obtain ⟨o8, w⟩ := w
      refine g_iast dX6_deal_75 sh_69 (al_69 hn) (Nat.le_of_ble_eq_true rfl) o8 ?_
      refine g_iinc (ls' := [aP 65, aI x1, aI (x2 + 1), aI x3, aU, aU]) dX6_deal_76 rfl (Nat.le_of_ble_eq_true rfl) rfl rfl ?_
      refine g_goto (tgt := 4) dX6_deal_79 rfl ?_
      exact g_sub (ls' := [aP 65, aI x1, aI (x2 + 1), aU, aU, aU]) ⟨Or.inr rfl, Or.inr rfl, Or.inr rfl, Or.inl rfl, Or.inl rfl, Or.inl rfl, trivial⟩ w
    · refine g_aload_n dX6_deal_49 rfl ?_
      refine g_getR dX6_deal_50 fl_X6_19 sh_65 (al_65 hn) (fun _ _ _ => rfl) rf_65_9 ?_
      refine g_iload_n dX6_deal_53 rfl ?_
      refine g_aload_n dX6_deal_54 rfl ?_
      refine g_getR dX6_deal_55 fl_X6_19 sh_65 (al_65 hn) (fun _ _ _ => rfl) rf_65_9 ?_
      refine g_iload_n dX6_deal_58 rfl ?_
      refine g_iconst dX6_deal_59 ?_
      refine g_isub dX6_deal_60 ?_
      refine g_iald dX6_deal_61 sh_69 (al_69 hn) (Nat.le_of_ble_eq_true rfl) o3 ?_
      obtain ⟨o9, w⟩ := w
      refine g_iast dX6_deal_62 sh_69 (al_69 hn) (Nat.le_of_ble_eq_true rfl) o9 ?_
      refine g_iinc (ls' := [aP 65, aI x1, aI x2, aI (x3 + (-1)), aU, aU]) dX6_deal_63 rfl (Nat.le_of_ble_eq_true rfl) rfl rfl ?_
      refine g_goto (tgt := 23) dX6_deal_66 rfl ?_
      exact g_sub (ls' := [aP 65, aI x1, aI x2, aI (x3 + (-1)), aU, aU]) ⟨Or.inr rfl, Or.inr rfl, Or.inr rfl, Or.inr rfl, Or.inl rfl, Or.inl rfl, trivial⟩ w
theorem b_X6_deal_96 {l : Launch} {D : Nat} {ζ : ZP} {h : HI} {Q : HI → Prop} {x2 : Int} (hn : 144 ≤ ζ.2.2.2.2) (w : (rg x2) ∧ (rg (h 65 7)) ∧ (if (h 65 7) ≤ x2 then (G l (D + 1) 0 0 mX6_deal (zz ζ) 119 [aP 65, aU, aI 0, aU, aU, aU] [] h (qV (zz ζ) Q)) else ((0 ≤ x2 ∧ x2 < 40) ∧ G l (D + 1) 0 0 mX6_deal (zz ζ) 96 [aP 65, aU, aI (x2 + 1), aU, aU, aU] [] (hu h 68 x2 0) (qV (zz ζ) Q)))) : G l (D + 1) 0 0 mX6_deal (zz ζ) 96 [aP 65, aU, aI x2, aU, aU, aU] [] h (qV (zz ζ) Q) := by
  refine g_iload_n dX6_deal_96 rfl ?_
  refine g_aload_n dX6_deal_97 rfl ?_
  refine g_getI (J := 7) dX6_deal_98 fl_X6_26 sh_65 (al_65 hn) (fun _ _ _ => rfl) rfl ?_
  obtain ⟨o1, w⟩ := w
  obtain ⟨o2, w⟩ := w
  refine g_cmp_ge (tgt := 117) dX6_deal_101 rfl o1 o2 ?_
  refine ite_imp (fun w => ?_) (fun w => ?_) w
  · refine g_iconst dX6_deal_117 ?_
    refine g_istore_n (ls' := [aP 65, aU, aI 0, aU, aU, aU]) dX6_deal_118 (Nat.le_of_ble_eq_true rfl) rfl rfl ?_
    exact g_sub (ls' := [aP 65, aU, aI 0, aU, aU, aU]) ⟨Or.inr rfl, Or.inl rfl, Or.inr rfl, Or.inl rfl, Or.inl rfl, Or.inl rfl, trivial⟩ w
  · refine g_aload_n dX6_deal_104 rfl ?_
    refine g_getR dX6_deal_105 fl_X6_16 sh_65 (al_65 hn) (fun _ _ _ => rfl) rf_65_8 ?_
    refine g_iload_n dX6_deal_108 rfl ?_
    refine g_iconst dX6_deal_109 ?_
    obtain ⟨o3, w⟩ := w
    refine g_iast dX6_deal_110 sh_68 (al_68 hn) (Nat.le_of_ble_eq_true rfl) o3 ?_
    refine g_iinc (ls' := [aP 65, aU, aI (x2 + 1), aU, aU, aU]) dX6_deal_111 rfl (Nat.le_of_ble_eq_true rfl) rfl rfl ?_
    refine g_goto (tgt := 96) dX6_deal_114 rfl ?_
    exact g_sub (ls' := [aP 65, aU, aI (x2 + 1), aU, aU, aU]) ⟨Or.inr rfl, Or.inl rfl, Or.inr rfl, Or.inl rfl, Or.inl rfl, Or.inl rfl, trivial⟩ w
theorem b_X6_deal_119 {l : Launch} {D : Nat} {ζ : ZP} {h : HI} {Q : HI → Prop} {x2 : Int} (hn : 144 ≤ ζ.2.2.2.2) (w : (rg x2) ∧ (rg (h 65 0)) ∧ (if (h 65 0) ≤ x2 then (Q h) else (RtI l D mX11_cut (zz ζ) [aI x2, aI (h 65 7)] h (fun r1 h1 => (rg r1) ∧ (rg (r1.tmod 2)) ∧ (if ¬ (r1.tmod 2) = 0 then ((0 ≤ x2 ∧ x2 < 40) ∧ (0 ≤ (h1 69 x2) ∧ (h1 69 x2) < 40) ∧ (0 ≤ (((h1 65 7) - 1) - (x2 - (r1 * (h1 65 7)))) ∧ (((h1 65 7) - 1) - (x2 - (r1 * (h1 65 7)))) < 40) ∧ G l (D + 1) 0 0 mX6_deal (zz ζ) 119 [aP 65, aU, aI (x2 + 1), aU, aU, aU] [] (hu (hu h1 67 (h1 69 x2) (((h1 65 7) - 1) - (x2 - (r1 * (h1 65 7))))) 68 (((h1 65 7) - 1) - (x2 - (r1 * (h1 65 7)))) ((h1 68 (((h1 65 7) - 1) - (x2 - (r1 * (h1 65 7))))) + (h1 66 (h1 69 x2)))) (qV (zz ζ) Q)) else ((0 ≤ x2 ∧ x2 < 40) ∧ (0 ≤ (h1 69 x2) ∧ (h1 69 x2) < 40) ∧ (0 ≤ (x2 - (r1 * (h1 65 7))) ∧ (x2 - (r1 * (h1 65 7))) < 40) ∧ G l (D + 1) 0 0 mX6_deal (zz ζ) 119 [aP 65, aU, aI (x2 + 1), aU, aU, aU] [] (hu (hu h1 67 (h1 69 x2) (x2 - (r1 * (h1 65 7)))) 68 (x2 - (r1 * (h1 65 7))) ((h1 68 (x2 - (r1 * (h1 65 7)))) + (h1 66 (h1 69 x2)))) (qV (zz ζ) Q))))))) : G l (D + 1) 0 0 mX6_deal (zz ζ) 119 [aP 65, aU, aI x2, aU, aU, aU] [] h (qV (zz ζ) Q) := by
  refine g_iload_n dX6_deal_119 rfl ?_
  refine g_aload_n dX6_deal_120 rfl ?_
  refine g_getI (J := 0) dX6_deal_121 fl_X6_22 sh_65 (al_65 hn) (fun _ _ _ => rfl) rfl ?_
  obtain ⟨o1, w⟩ := w
  obtain ⟨o2, w⟩ := w
  refine g_cmp_ge (tgt := 208) dX6_deal_124 rfl o1 o2 ?_
  refine ite_imp (fun w => ?_) (fun w => ?_) w
  · exact g_retV dX6_deal_208 rfl w
  · refine g_iload_n dX6_deal_127 rfl ?_
    refine g_aload_n dX6_deal_128 rfl ?_
    refine g_getI (J := 7) dX6_deal_129 fl_X6_26 sh_65 (al_65 hn) (fun _ _ _ => rfl) rfl ?_
    refine g_callSNI (n := 2) (As := [aI x2, aI (h 65 7)]) (st := []) dX6_deal_132 ml_X6_42 rfl rfl (Nat.le_of_ble_eq_true rfl) (RtI.mono w (fun r1 h1 w => ?_))
    refine g_istore_n (ls' := [aP 65, aU, aI x2, aI r1, aU, aU]) dX6_deal_135 (Nat.le_of_ble_eq_true rfl) rfl rfl ?_
    refine g_iload_n dX6_deal_136 rfl ?_
    refine g_iload_n dX6_deal_137 rfl ?_
    refine g_aload_n dX6_deal_138 rfl ?_
    refine g_getI (J := 7) dX6_deal_139 fl_X6_26 sh_65 (al_65 hn) (fun _ _ _ => rfl) rfl ?_
    refine g_imul dX6_deal_142 ?_
    refine g_isub dX6_deal_143 ?_
    refine g_istore (ls' := [aP 65, aU, aI x2, aI r1, aI (x2 - (r1 * (h1 65 7))), aU]) dX6_deal_144 (Nat.le_of_ble_eq_true rfl) rfl rfl ?_
    refine g_iload_n dX6_deal_146 rfl ?_
    refine g_iconst dX6_deal_147 ?_
    obtain ⟨o3, w⟩ := w
    refine g_irem dX6_deal_148 o3 (by decide) (by decide) ?_
    obtain ⟨o4, w⟩ := w
    refine g_if_ne (tgt := 157) dX6_deal_149 rfl o4 ?_
    refine ite_imp (fun w => ?_) (fun w => ?_) w
    · refine g_aload_n dX6_deal_157 rfl ?_
      refine g_getI (J := 7) dX6_deal_158 fl_X6_26 sh_65 (al_65 hn) (fun _ _ _ => rfl) rfl ?_
      refine g_iconst dX6_deal_161 ?_
      refine g_isub dX6_deal_162 ?_
      refine g_iload dX6_deal_163 rfl ?_
      refine g_isub dX6_deal_165 ?_
      refine g_istore (ls' := [aP 65, aU, aI x2, aI r1, aI (x2 - (r1 * (h1 65 7))), aI (((h1 65 7) - 1) - (x2 - (r1 * (h1 65 7))))]) dX6_deal_166 (Nat.le_of_ble_eq_true rfl) rfl rfl ?_
      refine g_aload_n dX6_deal_168 rfl ?_
      refine g_getR dX6_deal_169 fl_X6_13 sh_65 (al_65 hn) (fun _ _ _ => rfl) rf_65_2 ?_
      refine g_aload_n dX6_deal_172 rfl ?_
      refine g_getR dX6_deal_173 fl_X6_19 sh_65 (al_65 hn) (fun _ _ _ => rfl) rf_65_9 ?_
      refine g_iload_n dX6_deal_176 rfl ?_
      obtain ⟨o5, w⟩ := w
      refine g_iald dX6_deal_177 sh_69 (al_69 hn) (Nat.le_of_ble_eq_true rfl) o5 ?_
      refine g_iload dX6_deal_178 rfl ?_
      obtain ⟨o6, w⟩ := w
      refine g_iast dX6_deal_180 sh_67 (al_67 hn) (Nat.le_of_ble_eq_true rfl) o6 ?_
      refine g_aload_n dX6_deal_181 rfl ?_
      refine g_getR dX6_deal_182 fl_X6_16 sh_65 (al_65 hn) (fun _ _ _ => rfl) rf_65_8 ?_
      refine g_iload dX6_deal_185 rfl ?_
      refine g_dup2 dX6_deal_187 rfl rfl ?_
      obtain ⟨o7, w⟩ := w
      refine g_iald dX6_deal_188 sh_68 (al_68 hn) (Nat.le_of_ble_eq_true rfl) o7 ?_
      refine g_aload_n dX6_deal_189 rfl ?_
      refine g_getR dX6_deal_190 fl_X6_9 sh_65 (al_65 hn) (fun _ _ _ => rfl) rf_65_1 ?_
      refine g_aload_n dX6_deal_193 rfl ?_
      refine g_getR dX6_deal_194 fl_X6_19 sh_65 (al_65 hn) (fun _ _ _ => rfl) rf_65_9 ?_
      refine g_iload_n dX6_deal_197 rfl ?_
      refine g_iald dX6_deal_198 sh_69 (al_69 hn) (Nat.le_of_ble_eq_true rfl) o5 ?_
      refine g_iald dX6_deal_199 sh_66 (al_66 hn) (Nat.le_of_ble_eq_true rfl) o6 ?_
      refine g_iadd dX6_deal_200 ?_
      refine g_iast dX6_deal_201 sh_68 (al_68 hn) (Nat.le_of_ble_eq_true rfl) o7 ?_
      refine g_iinc (ls' := [aP 65, aU, aI (x2 + 1), aI r1, aI (x2 - (r1 * (h1 65 7))), aI (((h1 65 7) - 1) - (x2 - (r1 * (h1 65 7))))]) dX6_deal_202 rfl (Nat.le_of_ble_eq_true rfl) rfl rfl ?_
      refine g_goto (tgt := 119) dX6_deal_205 rfl ?_
      exact g_sub (ls' := [aP 65, aU, aI (x2 + 1), aU, aU, aU]) ⟨Or.inr rfl, Or.inl rfl, Or.inr rfl, Or.inl rfl, Or.inl rfl, Or.inl rfl, trivial⟩ w
    · refine g_iload dX6_deal_152 rfl ?_
      refine g_goto (tgt := 166) dX6_deal_154 rfl ?_
      refine g_istore (ls' := [aP 65, aU, aI x2, aI r1, aI (x2 - (r1 * (h1 65 7))), aI (x2 - (r1 * (h1 65 7)))]) dX6_deal_166 (Nat.le_of_ble_eq_true rfl) rfl rfl ?_
      refine g_aload_n dX6_deal_168 rfl ?_
      refine g_getR dX6_deal_169 fl_X6_13 sh_65 (al_65 hn) (fun _ _ _ => rfl) rf_65_2 ?_
      refine g_aload_n dX6_deal_172 rfl ?_
      refine g_getR dX6_deal_173 fl_X6_19 sh_65 (al_65 hn) (fun _ _ _ => rfl) rf_65_9 ?_
      refine g_iload_n dX6_deal_176 rfl ?_
      obtain ⟨o8, w⟩ := w
      refine g_iald dX6_deal_177 sh_69 (al_69 hn) (Nat.le_of_ble_eq_true rfl) o8 ?_
      refine g_iload dX6_deal_178 rfl ?_
      obtain ⟨o9, w⟩ := w
      refine g_iast dX6_deal_180 sh_67 (al_67 hn) (Nat.le_of_ble_eq_true rfl) o9 ?_
      refine g_aload_n dX6_deal_181 rfl ?_
      refine g_getR dX6_deal_182 fl_X6_16 sh_65 (al_65 hn) (fun _ _ _ => rfl) rf_65_8 ?_
      refine g_iload dX6_deal_185 rfl ?_
      refine g_dup2 dX6_deal_187 rfl rfl ?_
      obtain ⟨o10, w⟩ := w
      refine g_iald dX6_deal_188 sh_68 (al_68 hn) (Nat.le_of_ble_eq_true rfl) o10 ?_
      refine g_aload_n dX6_deal_189 rfl ?_
      refine g_getR dX6_deal_190 fl_X6_9 sh_65 (al_65 hn) (fun _ _ _ => rfl) rf_65_1 ?_
      refine g_aload_n dX6_deal_193 rfl ?_
      refine g_getR dX6_deal_194 fl_X6_19 sh_65 (al_65 hn) (fun _ _ _ => rfl) rf_65_9 ?_
      refine g_iload_n dX6_deal_197 rfl ?_
      refine g_iald dX6_deal_198 sh_69 (al_69 hn) (Nat.le_of_ble_eq_true rfl) o8 ?_
      refine g_iald dX6_deal_199 sh_66 (al_66 hn) (Nat.le_of_ble_eq_true rfl) o9 ?_
      refine g_iadd dX6_deal_200 ?_
      refine g_iast dX6_deal_201 sh_68 (al_68 hn) (Nat.le_of_ble_eq_true rfl) o10 ?_
      refine g_iinc (ls' := [aP 65, aU, aI (x2 + 1), aI r1, aI (x2 - (r1 * (h1 65 7))), aI (x2 - (r1 * (h1 65 7)))]) dX6_deal_202 rfl (Nat.le_of_ble_eq_true rfl) rfl rfl ?_
      refine g_goto (tgt := 119) dX6_deal_205 rfl ?_
      exact g_sub (ls' := [aP 65, aU, aI (x2 + 1), aU, aU, aU]) ⟨Or.inr rfl, Or.inl rfl, Or.inr rfl, Or.inl rfl, Or.inl rfl, Or.inl rfl, trivial⟩ w
theorem e_X6_deal {l : Launch} {D : Nat} {ζ : ZP} {h : HI} {Q : HI → Prop} (hn : 144 ≤ ζ.2.2.2.2) (w : G l (D + 1) 0 0 mX6_deal (zz ζ) 4 [aP 65, aI 0, aI 0, aU, aU, aU] [] h (qV (zz ζ) Q)) : RtV l (D + 1) mX6_deal (zz ζ) [aP 65] h Q := by
  refine RtV.of 5 pn_X6 [aP 65, aU, aU, aU, aU, aU] rfl rfl ?_
  refine g_iconst dX6_deal_0 ?_
  refine g_istore_n (ls' := [aP 65, aI 0, aU, aU, aU, aU]) dX6_deal_1 (Nat.le_of_ble_eq_true rfl) rfl rfl ?_
  refine g_iconst dX6_deal_2 ?_
  refine g_istore_n (ls' := [aP 65, aI 0, aI 0, aU, aU, aU]) dX6_deal_3 (Nat.le_of_ble_eq_true rfl) rfl rfl ?_
  exact g_sub (ls' := [aP 65, aI 0, aI 0, aU, aU, aU]) ⟨Or.inr rfl, Or.inr rfl, Or.inr rfl, Or.inl rfl, Or.inl rfl, Or.inl rfl, trivial⟩ w
theorem b_X6_measure_22 {l : Launch} {D : Nat} {ζ : ZP} {h : HI} {Q : HI → Prop} {x1 : Int} (hn : 144 ≤ ζ.2.2.2.2) (w : (rg x1) ∧ (rg (h 65 7)) ∧ (if (h 65 7) ≤ x1 then (Q h) else ((0 ≤ x1 ∧ x1 < 40) ∧ (rg (h 65 3)) ∧ (rg (h 68 x1)) ∧ (rg (h 65 4)) ∧ G l (D + 1) 0 0 mX6_measure (zz ζ) 22 [aP 65, aI (x1 + 1)] [] (hu (hu h 65 3 (min (h 65 3) (h 68 x1))) 65 4 (max (h 65 4) (h 68 x1))) (qV (zz ζ) Q)))) : G l (D + 1) 0 0 mX6_measure (zz ζ) 22 [aP 65, aI x1] [] h (qV (zz ζ) Q) := by
  refine g_iload_n dX6_measure_22 rfl ?_
  refine g_aload_n dX6_measure_23 rfl ?_
  refine g_getI (J := 7) dX6_measure_24 fl_X6_26 sh_65 (al_65 hn) (fun _ _ _ => rfl) rfl ?_
  obtain ⟨o1, w⟩ := w
  obtain ⟨o2, w⟩ := w
  refine g_cmp_ge (tgt := 70) dX6_measure_27 rfl o1 o2 ?_
  refine ite_imp (fun w => ?_) (fun w => ?_) w
  · exact g_retV dX6_measure_70 rfl w
  · refine g_aload_n dX6_measure_30 rfl ?_
    refine g_aload_n dX6_measure_31 rfl ?_
    refine g_getI (J := 3) dX6_measure_32 fl_X6_51 sh_65 (al_65 hn) (fun _ _ _ => rfl) rfl ?_
    refine g_aload_n dX6_measure_35 rfl ?_
    refine g_getR dX6_measure_36 fl_X6_16 sh_65 (al_65 hn) (fun _ _ _ => rfl) rf_65_8 ?_
    refine g_iload_n dX6_measure_39 rfl ?_
    obtain ⟨o3, w⟩ := w
    refine g_iald dX6_measure_40 sh_68 (al_68 hn) (Nat.le_of_ble_eq_true rfl) o3 ?_
    obtain ⟨o4, w⟩ := w
    obtain ⟨o5, w⟩ := w
    refine g_min dX6_measure_41 mm_X6_57 (Nat.le_of_ble_eq_true rfl) o4 o5 ?_
    refine g_putI (J := 3) dX6_measure_44 fl_X6_51 sh_65 (al_65 hn) rfl rfl ?_
    refine g_aload_n dX6_measure_47 rfl ?_
    refine g_aload_n dX6_measure_48 rfl ?_
    refine g_getI (J := 4) dX6_measure_49 fl_X6_54 sh_65 (al_65 hn) (fun _ _ _ => rfl) rfl ?_
    refine g_aload_n dX6_measure_52 rfl ?_
    refine g_getR dX6_measure_53 fl_X6_16 sh_65 (al_65 hn) (fun _ _ _ => rfl) rf_65_8 ?_
    refine g_iload_n dX6_measure_56 rfl ?_
    refine g_iald dX6_measure_57 sh_68 (al_68 hn) (Nat.le_of_ble_eq_true rfl) o3 ?_
    obtain ⟨o6, w⟩ := w
    refine g_max dX6_measure_58 mm_X6_62 (Nat.le_of_ble_eq_true rfl) o6 o5 ?_
    refine g_putI (J := 4) dX6_measure_61 fl_X6_54 sh_65 (al_65 hn) rfl rfl ?_
    refine g_iinc (ls' := [aP 65, aI (x1 + 1)]) dX6_measure_64 rfl (Nat.le_of_ble_eq_true rfl) rfl rfl ?_
    refine g_goto (tgt := 22) dX6_measure_67 rfl ?_
    exact g_sub (ls' := [aP 65, aI (x1 + 1)]) ⟨Or.inr rfl, Or.inr rfl, trivial⟩ w
theorem e_X6_measure {l : Launch} {D : Nat} {ζ : ZP} {h : HI} {Q : HI → Prop} (hn : 144 ≤ ζ.2.2.2.2) (w : G l (D + 1) 0 0 mX6_measure (zz ζ) 22 [aP 65, aI 1] [] (hu (hu h 65 3 (h 68 0)) 65 4 (h 68 0)) (qV (zz ζ) Q)) : RtV l (D + 1) mX6_measure (zz ζ) [aP 65] h Q := by
  refine RtV.of 1 pn_X6 [aP 65, aU] rfl rfl ?_
  refine g_aload_n dX6_measure_0 rfl ?_
  refine g_aload_n dX6_measure_1 rfl ?_
  refine g_getR dX6_measure_2 fl_X6_16 sh_65 (al_65 hn) (fun _ _ _ => rfl) rf_65_8 ?_
  refine g_iconst dX6_measure_5 ?_
  refine g_iald dX6_measure_6 sh_68 (al_68 hn) (Nat.le_of_ble_eq_true rfl) (by decide) ?_
  refine g_putI (J := 3) dX6_measure_7 fl_X6_51 sh_65 (al_65 hn) rfl rfl ?_
  refine g_aload_n dX6_measure_10 rfl ?_
  refine g_aload_n dX6_measure_11 rfl ?_
  refine g_getR dX6_measure_12 fl_X6_16 sh_65 (al_65 hn) (fun _ _ _ => rfl) rf_65_8 ?_
  refine g_iconst dX6_measure_15 ?_
  refine g_iald dX6_measure_16 sh_68 (al_68 hn) (Nat.le_of_ble_eq_true rfl) (by decide) ?_
  refine g_putI (J := 4) dX6_measure_17 fl_X6_54 sh_65 (al_65 hn) rfl rfl ?_
  refine g_iconst dX6_measure_20 ?_
  refine g_istore_n (ls' := [aP 65, aI 1]) dX6_measure_21 (Nat.le_of_ble_eq_true rfl) rfl rfl ?_
  exact g_sub (ls' := [aP 65, aI 1]) ⟨Or.inr rfl, Or.inr rfl, trivial⟩ w
theorem b_X6_exchangeFirst_2 {l : Launch} {D : Nat} {ζ : ZP} {h : HI} {Q : Int → HI → Prop} {x1 : Int} (hn : 144 ≤ ζ.2.2.2.2) (w : (rg x1) ∧ (rg (h 65 0)) ∧ (if (h 65 0) ≤ x1 then (Q 0 h) else (G l (D + 1) 0 0 mX6_exchangeFirst (zz ζ) 14 [aP 65, aI x1, aI (x1 + 1)] [] h (qI (zz ζ) Q)))) : G l (D + 1) 0 0 mX6_exchangeFirst (zz ζ) 2 [aP 65, aI x1, aU] [] h (qI (zz ζ) Q) := by
  refine g_iload_n dX6_exchangeFirst_2 rfl ?_
  refine g_aload_n dX6_exchangeFirst_3 rfl ?_
  refine g_getI (J := 0) dX6_exchangeFirst_4 fl_X6_22 sh_65 (al_65 hn) (fun _ _ _ => rfl) rfl ?_
  obtain ⟨o1, w⟩ := w
  obtain ⟨o2, w⟩ := w
  refine g_cmp_ge (tgt := 74) dX6_exchangeFirst_7 rfl o1 o2 ?_
  refine ite_imp (fun w => ?_) (fun w => ?_) w
  · refine g_iconst dX6_exchangeFirst_74 ?_
    exact g_retZ dX6_exchangeFirst_75 rfl (Or.inl rfl) w
  · refine g_iload_n dX6_exchangeFirst_10 rfl ?_
    refine g_iconst dX6_exchangeFirst_11 ?_
    refine g_iadd dX6_exchangeFirst_12 ?_
    refine g_istore_n (ls' := [aP 65, aI x1, aI (x1 + 1)]) dX6_exchangeFirst_13 (Nat.le_of_ble_eq_true rfl) rfl rfl ?_
    exact g_sub (ls' := [aP 65, aI x1, aI (x1 + 1)]) ⟨Or.inr rfl, Or.inr rfl, Or.inr rfl, trivial⟩ w
theorem b_X6_exchangeFirst_14 {l : Launch} {D : Nat} {ζ : ZP} {h : HI} {Q : Int → HI → Prop} {x1 x2 : Int} (hn : 144 ≤ ζ.2.2.2.2) (w : (rg x2) ∧ (rg (h 65 0)) ∧ (if (h 65 0) ≤ x2 then (G l (D + 1) 0 0 mX6_exchangeFirst (zz ζ) 2 [aP 65, aI (x1 + 1), aU] [] h (qI (zz ζ) Q)) else ((0 ≤ x1 ∧ x1 < 40) ∧ (0 ≤ x2 ∧ x2 < 40) ∧ RtI l D mX6_helps (zz ζ) [aP 65, aI (h 67 x1), aI (h 67 x2), aI ((h 66 x2) - (h 66 x1))] h (fun r1 h1 => (rg r1) ∧ (if r1 = 0 then (G l (D + 1) 0 0 mX6_exchangeFirst (zz ζ) 14 [aP 65, aI x1, aI (x2 + 1)] [] h1 (qI (zz ζ) Q)) else (RtV l D mX6_exchange (zz ζ) [aP 65, aI x1, aI x2] h1 (fun h2 => Q 1 h2))))))) : G l (D + 1) 0 0 mX6_exchangeFirst (zz ζ) 14 [aP 65, aI x1, aI x2] [] h (qI (zz ζ) Q) := by
  refine g_iload_n dX6_exchangeFirst_14 rfl ?_
  refine g_aload_n dX6_exchangeFirst_15 rfl ?_
  refine g_getI (J := 0) dX6_exchangeFirst_16 fl_X6_22 sh_65 (al_65 hn) (fun _ _ _ => rfl) rfl ?_
  obtain ⟨o1, w⟩ := w
  obtain ⟨o2, w⟩ := w
  refine g_cmp_ge (tgt := 68) dX6_exchangeFirst_19 rfl o1 o2 ?_
  refine ite_imp (fun w => ?_) (fun w => ?_) w
  · refine g_iinc (ls' := [aP 65, aI (x1 + 1), aI x2]) dX6_exchangeFirst_68 rfl (Nat.le_of_ble_eq_true rfl) rfl rfl ?_
    refine g_goto (tgt := 2) dX6_exchangeFirst_71 rfl ?_
    exact g_sub (ls' := [aP 65, aI (x1 + 1), aU]) ⟨Or.inr rfl, Or.inr rfl, Or.inl rfl, trivial⟩ w
  · refine g_aload_n dX6_exchangeFirst_22 rfl ?_
    refine g_aload_n dX6_exchangeFirst_23 rfl ?_
    refine g_getR dX6_exchangeFirst_24 fl_X6_13 sh_65 (al_65 hn) (fun _ _ _ => rfl) rf_65_2 ?_
    refine g_iload_n dX6_exchangeFirst_27 rfl ?_
    obtain ⟨o3, w⟩ := w
    refine g_iald dX6_exchangeFirst_28 sh_67 (al_67 hn) (Nat.le_of_ble_eq_true rfl) o3 ?_
    refine g_aload_n dX6_exchangeFirst_29 rfl ?_
    refine g_getR dX6_exchangeFirst_30 fl_X6_13 sh_65 (al_65 hn) (fun _ _ _ => rfl) rf_65_2 ?_
    refine g_iload_n dX6_exchangeFirst_33 rfl ?_
    obtain ⟨o4, w⟩ := w
    refine g_iald dX6_exchangeFirst_34 sh_67 (al_67 hn) (Nat.le_of_ble_eq_true rfl) o4 ?_
    refine g_aload_n dX6_exchangeFirst_35 rfl ?_
    refine g_getR dX6_exchangeFirst_36 fl_X6_9 sh_65 (al_65 hn) (fun _ _ _ => rfl) rf_65_1 ?_
    refine g_iload_n dX6_exchangeFirst_39 rfl ?_
    refine g_iald dX6_exchangeFirst_40 sh_66 (al_66 hn) (Nat.le_of_ble_eq_true rfl) o4 ?_
    refine g_aload_n dX6_exchangeFirst_41 rfl ?_
    refine g_getR dX6_exchangeFirst_42 fl_X6_9 sh_65 (al_65 hn) (fun _ _ _ => rfl) rf_65_1 ?_
    refine g_iload_n dX6_exchangeFirst_45 rfl ?_
    refine g_iald dX6_exchangeFirst_46 sh_66 (al_66 hn) (Nat.le_of_ble_eq_true rfl) o3 ?_
    refine g_isub dX6_exchangeFirst_47 ?_
    refine g_callVI (n := 3) (As := [aI (h 67 x1), aI (h 67 x2), aI ((h 66 x2) - (h 66 x1))]) (st := []) dX6_exchangeFirst_48 ml_X6_65 sh_65 rfl (al_65 hn) rfl rfl (Nat.le_of_ble_eq_true rfl) (RtI.mono w (fun r1 h1 w => ?_))
    obtain ⟨o5, w⟩ := w
    refine g_if_eq (tgt := 62) dX6_exchangeFirst_51 rfl o5 ?_
    refine ite_imp (fun w => ?_) (fun w => ?_) w
    · refine g_iinc (ls' := [aP 65, aI x1, aI (x2 + 1)]) dX6_exchangeFirst_62 rfl (Nat.le_of_ble_eq_true rfl) rfl rfl ?_
      refine g_goto (tgt := 14) dX6_exchangeFirst_65 rfl ?_
      exact g_sub (ls' := [aP 65, aI x1, aI (x2 + 1)]) ⟨Or.inr rfl, Or.inr rfl, Or.inr rfl, trivial⟩ w
    · refine g_aload_n dX6_exchangeFirst_54 rfl ?_
      refine g_iload_n dX6_exchangeFirst_55 rfl ?_
      refine g_iload_n dX6_exchangeFirst_56 rfl ?_
      refine g_callVV (n := 2) (As := [aI x1, aI x2]) (st := []) dX6_exchangeFirst_57 ml_X6_69 sh_65 rfl (al_65 hn) rfl rfl (Nat.le_of_ble_eq_true rfl) (RtV.mono w (fun h2 w => ?_))
      refine g_iconst dX6_exchangeFirst_60 ?_
      exact g_retZ dX6_exchangeFirst_61 rfl (Or.inr rfl) w
theorem e_X6_exchangeFirst {l : Launch} {D : Nat} {ζ : ZP} {h : HI} {Q : Int → HI → Prop} (hn : 144 ≤ ζ.2.2.2.2) (w : G l (D + 1) 0 0 mX6_exchangeFirst (zz ζ) 2 [aP 65, aI 0, aU] [] h (qI (zz ζ) Q)) : RtI l (D + 1) mX6_exchangeFirst (zz ζ) [aP 65] h Q := by
  refine RtI.of 2 pn_X6 [aP 65, aU, aU] rfl rfl ?_
  refine g_iconst dX6_exchangeFirst_0 ?_
  refine g_istore_n (ls' := [aP 65, aI 0, aU]) dX6_exchangeFirst_1 (Nat.le_of_ble_eq_true rfl) rfl rfl ?_
  exact g_sub (ls' := [aP 65, aI 0, aU]) ⟨Or.inr rfl, Or.inr rfl, Or.inl rfl, trivial⟩ w
theorem b_X6_helps_72 {l : Launch} {D : Nat} {ζ : ZP} {h : HI} {Q : Int → HI → Prop} {x1 x2 x6 x7 x8 : Int} (hn : 144 ≤ ζ.2.2.2.2) (w : (rg x8) ∧ (rg (h 65 7)) ∧ (if (h 65 7) ≤ x8 then ((rg x6) ∧ (rg (h 65 3)) ∧ (if (h 65 3) < x6 then (Q 1 h) else (if ¬ x6 = (h 65 3) then (Q 0 h) else ((rg x7) ∧ (rg (h 65 4)) ∧ (if (h 65 4) ≤ x7 then (Q 0 h) else (Q 1 h)))))) else ((rg x1) ∧ (if x8 = x1 then (G l (D + 1) 0 0 mX6_helps (zz ζ) 72 [aP 65, aI x1, aI x2, aU, aU, aU, aI x6, aI x7, aI (x8 + 1)] [] h (qI (zz ζ) Q)) else ((rg x2) ∧ (if x8 = x2 then (G l (D + 1) 0 0 mX6_helps (zz ζ) 72 [aP 65, aI x1, aI x2, aU, aU, aU, aI x6, aI x7, aI (x8 + 1)] [] h (qI (zz ζ) Q)) else ((0 ≤ x8 ∧ x8 < 40) ∧ (rg x6) ∧ (rg (h 68 x8)) ∧ (rg x7) ∧ G l (D + 1) 0 0 mX6_helps (zz ζ) 72 [aP 65, aI x1, aI x2, aU, aU, aU, aI (min x6 (h 68 x8)), aI (max x7 (h 68 x8)), aI (x8 + 1)] [] h (qI (zz ζ) Q)))))))) : G l (D + 1) 0 0 mX6_helps (zz ζ) 72 [aP 65, aI x1, aI x2, aU, aU, aU, aI x6, aI x7, aI x8] [] h (qI (zz ζ) Q) := by
  refine g_iload dX6_helps_72 rfl ?_
  refine g_aload_n dX6_helps_74 rfl ?_
  refine g_getI (J := 7) dX6_helps_75 fl_X6_26 sh_65 (al_65 hn) (fun _ _ _ => rfl) rfl ?_
  obtain ⟨o1, w⟩ := w
  obtain ⟨o2, w⟩ := w
  refine g_cmp_ge (tgt := 127) dX6_helps_78 rfl o1 o2 ?_
  refine ite_imp (fun w => ?_) (fun w => ?_) w
  · refine g_iload dX6_helps_127 rfl ?_
    refine g_aload_n dX6_helps_129 rfl ?_
    refine g_getI (J := 3) dX6_helps_130 fl_X6_51 sh_65 (al_65 hn) (fun _ _ _ => rfl) rfl ?_
    obtain ⟨o3, w⟩ := w
    obtain ⟨o4, w⟩ := w
    refine g_cmp_gt (tgt := 154) dX6_helps_133 rfl o3 o4 ?_
    refine ite_imp (fun w => ?_) (fun w => ?_) w
    · refine g_iconst dX6_helps_154 ?_
      refine g_goto (tgt := 159) dX6_helps_155 rfl ?_
      exact g_retZ dX6_helps_159 rfl (Or.inr rfl) w
    · refine g_iload dX6_helps_136 rfl ?_
      refine g_aload_n dX6_helps_138 rfl ?_
      refine g_getI (J := 3) dX6_helps_139 fl_X6_51 sh_65 (al_65 hn) (fun _ _ _ => rfl) rfl ?_
      refine g_cmp_ne (tgt := 158) dX6_helps_142 rfl o3 o4 ?_
      refine ite_imp (fun w => ?_) (fun w => ?_) w
      · refine g_iconst dX6_helps_158 ?_
        exact g_retZ dX6_helps_159 rfl (Or.inl rfl) w
      · refine g_iload dX6_helps_145 rfl ?_
        refine g_aload_n dX6_helps_147 rfl ?_
        refine g_getI (J := 4) dX6_helps_148 fl_X6_54 sh_65 (al_65 hn) (fun _ _ _ => rfl) rfl ?_
        obtain ⟨o5, w⟩ := w
        obtain ⟨o6, w⟩ := w
        refine g_cmp_ge (tgt := 158) dX6_helps_151 rfl o5 o6 ?_
        refine ite_imp (fun w => ?_) (fun w => ?_) w
        · refine g_iconst dX6_helps_158 ?_
          exact g_retZ dX6_helps_159 rfl (Or.inl rfl) w
        · refine g_iconst dX6_helps_154 ?_
          refine g_goto (tgt := 159) dX6_helps_155 rfl ?_
          exact g_retZ dX6_helps_159 rfl (Or.inr rfl) w
  · refine g_iload dX6_helps_81 rfl ?_
    refine g_iload_n dX6_helps_83 rfl ?_
    obtain ⟨o7, w⟩ := w
    refine g_cmp_eq (tgt := 121) dX6_helps_84 rfl o1 o7 ?_
    refine ite_imp (fun w => ?_) (fun w => ?_) w
    · refine g_iinc (ls' := [aP 65, aI x1, aI x2, aU, aU, aU, aI x6, aI x7, aI (x8 + 1)]) dX6_helps_121 rfl (Nat.le_of_ble_eq_true rfl) rfl rfl ?_
      refine g_goto (tgt := 72) dX6_helps_124 rfl ?_
      exact g_sub (ls' := [aP 65, aI x1, aI x2, aU, aU, aU, aI x6, aI x7, aI (x8 + 1)]) ⟨Or.inr rfl, Or.inr rfl, Or.inr rfl, Or.inl rfl, Or.inl rfl, Or.inl rfl, Or.inr rfl, Or.inr rfl, Or.inr rfl, trivial⟩ w
    · refine g_iload dX6_helps_87 rfl ?_
      refine g_iload_n dX6_helps_89 rfl ?_
      obtain ⟨o8, w⟩ := w
      refine g_cmp_eq (tgt := 121) dX6_helps_90 rfl o1 o8 ?_
      refine ite_imp (fun w => ?_) (fun w => ?_) w
      · refine g_iinc (ls' := [aP 65, aI x1, aI x2, aU, aU, aU, aI x6, aI x7, aI (x8 + 1)]) dX6_helps_121 rfl (Nat.le_of_ble_eq_true rfl) rfl rfl ?_
        refine g_goto (tgt := 72) dX6_helps_124 rfl ?_
        exact g_sub (ls' := [aP 65, aI x1, aI x2, aU, aU, aU, aI x6, aI x7, aI (x8 + 1)]) ⟨Or.inr rfl, Or.inr rfl, Or.inr rfl, Or.inl rfl, Or.inl rfl, Or.inl rfl, Or.inr rfl, Or.inr rfl, Or.inr rfl, trivial⟩ w
      · refine g_iload dX6_helps_93 rfl ?_
        refine g_aload_n dX6_helps_95 rfl ?_
        refine g_getR dX6_helps_96 fl_X6_16 sh_65 (al_65 hn) (fun _ _ _ => rfl) rf_65_8 ?_
        refine g_iload dX6_helps_99 rfl ?_
        obtain ⟨o9, w⟩ := w
        refine g_iald dX6_helps_101 sh_68 (al_68 hn) (Nat.le_of_ble_eq_true rfl) o9 ?_
        obtain ⟨o10, w⟩ := w
        obtain ⟨o11, w⟩ := w
        refine g_min dX6_helps_102 mm_X6_57 (Nat.le_of_ble_eq_true rfl) o10 o11 ?_
        refine g_istore (ls' := [aP 65, aI x1, aI x2, aU, aU, aU, aI (min x6 (h 68 x8)), aI x7, aI x8]) dX6_helps_105 (Nat.le_of_ble_eq_true rfl) rfl rfl ?_
        refine g_iload dX6_helps_107 rfl ?_
        refine g_aload_n dX6_helps_109 rfl ?_
        refine g_getR dX6_helps_110 fl_X6_16 sh_65 (al_65 hn) (fun _ _ _ => rfl) rf_65_8 ?_
        refine g_iload dX6_helps_113 rfl ?_
        refine g_iald dX6_helps_115 sh_68 (al_68 hn) (Nat.le_of_ble_eq_true rfl) o9 ?_
        obtain ⟨o12, w⟩ := w
        refine g_max dX6_helps_116 mm_X6_62 (Nat.le_of_ble_eq_true rfl) o12 o11 ?_
        refine g_istore (ls' := [aP 65, aI x1, aI x2, aU, aU, aU, aI (min x6 (h 68 x8)), aI (max x7 (h 68 x8)), aI x8]) dX6_helps_119 (Nat.le_of_ble_eq_true rfl) rfl rfl ?_
        refine g_iinc (ls' := [aP 65, aI x1, aI x2, aU, aU, aU, aI (min x6 (h 68 x8)), aI (max x7 (h 68 x8)), aI (x8 + 1)]) dX6_helps_121 rfl (Nat.le_of_ble_eq_true rfl) rfl rfl ?_
        refine g_goto (tgt := 72) dX6_helps_124 rfl ?_
        exact g_sub (ls' := [aP 65, aI x1, aI x2, aU, aU, aU, aI (min x6 (h 68 x8)), aI (max x7 (h 68 x8)), aI (x8 + 1)]) ⟨Or.inr rfl, Or.inr rfl, Or.inr rfl, Or.inl rfl, Or.inl rfl, Or.inl rfl, Or.inr rfl, Or.inr rfl, Or.inr rfl, trivial⟩ w
theorem e_X6_helps {l : Launch} {D : Nat} {ζ : ZP} {h : HI} {Q : Int → HI → Prop} {x1 x2 x3 : Int} (hn : 144 ≤ ζ.2.2.2.2) (w : (rg x1) ∧ (rg x2) ∧ (if x1 = x2 then (Q 0 h) else ((rg x3) ∧ (if ¬ x3 = 0 then ((0 ≤ x1 ∧ x1 < 40) ∧ (0 ≤ x2 ∧ x2 < 40) ∧ (rg ((h 68 x1) + x3)) ∧ (rg (h 65 3)) ∧ (if ((h 68 x1) + x3) < (h 65 3) then (Q 0 h) else ((rg ((h 68 x2) - x3)) ∧ (if (h 65 3) ≤ ((h 68 x2) - x3) then (G l (D + 1) 0 0 mX6_helps (zz ζ) 72 [aP 65, aI x1, aI x2, aU, aU, aU, aI (min ((h 68 x1) + x3) ((h 68 x2) - x3)), aI (max ((h 68 x1) + x3) ((h 68 x2) - x3)), aI 0] [] h (qI (zz ζ) Q)) else (Q 0 h))))) else (Q 0 h))))) : RtI l (D + 1) mX6_helps (zz ζ) [aP 65, aI x1, aI x2, aI x3] h Q := by
  refine RtI.of 5 pn_X6 [aP 65, aI x1, aI x2, aI x3, aU, aU, aU, aU, aU] rfl rfl ?_
  refine g_iload_n dX6_helps_0 rfl ?_
  refine g_iload_n dX6_helps_1 rfl ?_
  obtain ⟨o1, w⟩ := w
  obtain ⟨o2, w⟩ := w
  refine g_cmp_eq (tgt := 9) dX6_helps_2 rfl o1 o2 ?_
  refine ite_imp (fun w => ?_) (fun w => ?_) w
  · refine g_iconst dX6_helps_9 ?_
    exact g_retZ dX6_helps_10 rfl (Or.inl rfl) w
  · refine g_iload_n dX6_helps_5 rfl ?_
    obtain ⟨o3, w⟩ := w
    refine g_if_ne (tgt := 11) dX6_helps_6 rfl o3 ?_
    refine ite_imp (fun w => ?_) (fun w => ?_) w
    · refine g_aload_n dX6_helps_11 rfl ?_
      refine g_getR dX6_helps_12 fl_X6_16 sh_65 (al_65 hn) (fun _ _ _ => rfl) rf_65_8 ?_
      refine g_iload_n dX6_helps_15 rfl ?_
      obtain ⟨o4, w⟩ := w
      refine g_iald dX6_helps_16 sh_68 (al_68 hn) (Nat.le_of_ble_eq_true rfl) o4 ?_
      refine g_iload_n dX6_helps_17 rfl ?_
      refine g_iadd dX6_helps_18 ?_
      refine g_istore (ls' := [aP 65, aI x1, aI x2, aI x3, aI ((h 68 x1) + x3), aU, aU, aU, aU]) dX6_helps_19 (Nat.le_of_ble_eq_true rfl) rfl rfl ?_
      refine g_aload_n dX6_helps_21 rfl ?_
      refine g_getR dX6_helps_22 fl_X6_16 sh_65 (al_65 hn) (fun _ _ _ => rfl) rf_65_8 ?_
      refine g_iload_n dX6_helps_25 rfl ?_
      obtain ⟨o5, w⟩ := w
      refine g_iald dX6_helps_26 sh_68 (al_68 hn) (Nat.le_of_ble_eq_true rfl) o5 ?_
      refine g_iload_n dX6_helps_27 rfl ?_
      refine g_isub dX6_helps_28 ?_
      refine g_istore (ls' := [aP 65, aI x1, aI x2, aI x3, aI ((h 68 x1) + x3), aI ((h 68 x2) - x3), aU, aU, aU]) dX6_helps_29 (Nat.le_of_ble_eq_true rfl) rfl rfl ?_
      refine g_iload dX6_helps_31 rfl ?_
      refine g_aload_n dX6_helps_33 rfl ?_
      refine g_getI (J := 3) dX6_helps_34 fl_X6_51 sh_65 (al_65 hn) (fun _ _ _ => rfl) rfl ?_
      obtain ⟨o6, w⟩ := w
      obtain ⟨o7, w⟩ := w
      refine g_cmp_lt (tgt := 49) dX6_helps_37 rfl o6 o7 ?_
      refine ite_imp (fun w => ?_) (fun w => ?_) w
      · refine g_iconst dX6_helps_49 ?_
        exact g_retZ dX6_helps_50 rfl (Or.inl rfl) w
      · refine g_iload dX6_helps_40 rfl ?_
        refine g_aload_n dX6_helps_42 rfl ?_
        refine g_getI (J := 3) dX6_helps_43 fl_X6_51 sh_65 (al_65 hn) (fun _ _ _ => rfl) rfl ?_
        obtain ⟨o8, w⟩ := w
        refine g_cmp_ge (tgt := 51) dX6_helps_46 rfl o8 o7 ?_
        refine ite_imp (fun w => ?_) (fun w => ?_) w
        · refine g_iload dX6_helps_51 rfl ?_
          refine g_iload dX6_helps_53 rfl ?_
          refine g_min dX6_helps_55 mm_X6_57 (Nat.le_of_ble_eq_true rfl) o6 o8 ?_
          refine g_istore (ls' := [aP 65, aI x1, aI x2, aI x3, aI ((h 68 x1) + x3), aI ((h 68 x2) - x3), aI (min ((h 68 x1) + x3) ((h 68 x2) - x3)), aU, aU]) dX6_helps_58 (Nat.le_of_ble_eq_true rfl) rfl rfl ?_
          refine g_iload dX6_helps_60 rfl ?_
          refine g_iload dX6_helps_62 rfl ?_
          refine g_max dX6_helps_64 mm_X6_62 (Nat.le_of_ble_eq_true rfl) o6 o8 ?_
          refine g_istore (ls' := [aP 65, aI x1, aI x2, aI x3, aI ((h 68 x1) + x3), aI ((h 68 x2) - x3), aI (min ((h 68 x1) + x3) ((h 68 x2) - x3)), aI (max ((h 68 x1) + x3) ((h 68 x2) - x3)), aU]) dX6_helps_67 (Nat.le_of_ble_eq_true rfl) rfl rfl ?_
          refine g_iconst dX6_helps_69 ?_
          refine g_istore (ls' := [aP 65, aI x1, aI x2, aI x3, aI ((h 68 x1) + x3), aI ((h 68 x2) - x3), aI (min ((h 68 x1) + x3) ((h 68 x2) - x3)), aI (max ((h 68 x1) + x3) ((h 68 x2) - x3)), aI 0]) dX6_helps_70 (Nat.le_of_ble_eq_true rfl) rfl rfl ?_
          exact g_sub (ls' := [aP 65, aI x1, aI x2, aU, aU, aU, aI (min ((h 68 x1) + x3) ((h 68 x2) - x3)), aI (max ((h 68 x1) + x3) ((h 68 x2) - x3)), aI 0]) ⟨Or.inr rfl, Or.inr rfl, Or.inr rfl, Or.inl rfl, Or.inl rfl, Or.inl rfl, Or.inr rfl, Or.inr rfl, Or.inr rfl, trivial⟩ w
        · refine g_iconst dX6_helps_49 ?_
          exact g_retZ dX6_helps_50 rfl (Or.inl rfl) w
    · refine g_iconst dX6_helps_9 ?_
      exact g_retZ dX6_helps_10 rfl (Or.inl rfl) w
theorem e_X6_exchange {l : Launch} {D : Nat} {ζ : ZP} {h : HI} {Q : HI → Prop} {x1 x2 : Int} (hn : 144 ≤ ζ.2.2.2.2) (w : (0 ≤ x1 ∧ x1 < 40) ∧ (0 ≤ x2 ∧ x2 < 40) ∧ (0 ≤ (h 67 x1) ∧ (h 67 x1) < 40) ∧ (0 ≤ (h 67 x2) ∧ (h 67 x2) < 40) ∧ Q (hu (hu (hu (hu h 68 (h 67 x1) ((h 68 (h 67 x1)) + ((h 66 x2) - (h 66 x1)))) 68 (h 67 x2) (((hu h 68 (h 67 x1) ((h 68 (h 67 x1)) + ((h 66 x2) - (h 66 x1)))) 68 (h 67 x2)) + ((h 66 x1) - (h 66 x2)))) 67 x1 (h 67 x2)) 67 x2 (h 67 x1))) : RtV l (D + 1) mX6_exchange (zz ζ) [aP 65, aI x1, aI x2] h Q := by
  refine RtV.of 2 pn_X6 [aP 65, aI x1, aI x2, aU, aU] rfl rfl ?_
  refine g_aload_n dX6_exchange_0 rfl ?_
  refine g_getR dX6_exchange_1 fl_X6_13 sh_65 (al_65 hn) (fun _ _ _ => rfl) rf_65_2 ?_
  refine g_iload_n dX6_exchange_4 rfl ?_
  obtain ⟨o1, w⟩ := w
  refine g_iald dX6_exchange_5 sh_67 (al_67 hn) (Nat.le_of_ble_eq_true rfl) o1 ?_
  refine g_istore_n (ls' := [aP 65, aI x1, aI x2, aI (h 67 x1), aU]) dX6_exchange_6 (Nat.le_of_ble_eq_true rfl) rfl rfl ?_
  refine g_aload_n dX6_exchange_7 rfl ?_
  refine g_getR dX6_exchange_8 fl_X6_13 sh_65 (al_65 hn) (fun _ _ _ => rfl) rf_65_2 ?_
  refine g_iload_n dX6_exchange_11 rfl ?_
  obtain ⟨o2, w⟩ := w
  refine g_iald dX6_exchange_12 sh_67 (al_67 hn) (Nat.le_of_ble_eq_true rfl) o2 ?_
  refine g_istore (ls' := [aP 65, aI x1, aI x2, aI (h 67 x1), aI (h 67 x2)]) dX6_exchange_13 (Nat.le_of_ble_eq_true rfl) rfl rfl ?_
  refine g_aload_n dX6_exchange_15 rfl ?_
  refine g_getR dX6_exchange_16 fl_X6_16 sh_65 (al_65 hn) (fun _ _ _ => rfl) rf_65_8 ?_
  refine g_iload_n dX6_exchange_19 rfl ?_
  refine g_dup2 dX6_exchange_20 rfl rfl ?_
  obtain ⟨o3, w⟩ := w
  refine g_iald dX6_exchange_21 sh_68 (al_68 hn) (Nat.le_of_ble_eq_true rfl) o3 ?_
  refine g_aload_n dX6_exchange_22 rfl ?_
  refine g_getR dX6_exchange_23 fl_X6_9 sh_65 (al_65 hn) (fun _ _ _ => rfl) rf_65_1 ?_
  refine g_iload_n dX6_exchange_26 rfl ?_
  refine g_iald dX6_exchange_27 sh_66 (al_66 hn) (Nat.le_of_ble_eq_true rfl) o2 ?_
  refine g_aload_n dX6_exchange_28 rfl ?_
  refine g_getR dX6_exchange_29 fl_X6_9 sh_65 (al_65 hn) (fun _ _ _ => rfl) rf_65_1 ?_
  refine g_iload_n dX6_exchange_32 rfl ?_
  refine g_iald dX6_exchange_33 sh_66 (al_66 hn) (Nat.le_of_ble_eq_true rfl) o1 ?_
  refine g_isub dX6_exchange_34 ?_
  refine g_iadd dX6_exchange_35 ?_
  refine g_iast dX6_exchange_36 sh_68 (al_68 hn) (Nat.le_of_ble_eq_true rfl) o3 ?_
  refine g_aload_n dX6_exchange_37 rfl ?_
  refine g_getR dX6_exchange_38 fl_X6_16 sh_65 (al_65 hn) (fun _ _ _ => rfl) rf_65_8 ?_
  refine g_iload dX6_exchange_41 rfl ?_
  refine g_dup2 dX6_exchange_43 rfl rfl ?_
  obtain ⟨o4, w⟩ := w
  refine g_iald dX6_exchange_44 sh_68 (al_68 hn) (Nat.le_of_ble_eq_true rfl) o4 ?_
  refine g_aload_n dX6_exchange_45 rfl ?_
  refine g_getR dX6_exchange_46 fl_X6_9 sh_65 (al_65 hn) (fun _ _ _ => rfl) rf_65_1 ?_
  refine g_iload_n dX6_exchange_49 rfl ?_
  refine g_iald dX6_exchange_50 sh_66 (al_66 hn) (Nat.le_of_ble_eq_true rfl) o1 ?_
  refine g_aload_n dX6_exchange_51 rfl ?_
  refine g_getR dX6_exchange_52 fl_X6_9 sh_65 (al_65 hn) (fun _ _ _ => rfl) rf_65_1 ?_
  refine g_iload_n dX6_exchange_55 rfl ?_
  refine g_iald dX6_exchange_56 sh_66 (al_66 hn) (Nat.le_of_ble_eq_true rfl) o2 ?_
  refine g_isub dX6_exchange_57 ?_
  refine g_iadd dX6_exchange_58 ?_
  refine g_iast dX6_exchange_59 sh_68 (al_68 hn) (Nat.le_of_ble_eq_true rfl) o4 ?_
  refine g_aload_n dX6_exchange_60 rfl ?_
  refine g_getR dX6_exchange_61 fl_X6_13 sh_65 (al_65 hn) (fun _ _ _ => rfl) rf_65_2 ?_
  refine g_iload_n dX6_exchange_64 rfl ?_
  refine g_iload dX6_exchange_65 rfl ?_
  refine g_iast dX6_exchange_67 sh_67 (al_67 hn) (Nat.le_of_ble_eq_true rfl) o1 ?_
  refine g_aload_n dX6_exchange_68 rfl ?_
  refine g_getR dX6_exchange_69 fl_X6_13 sh_65 (al_65 hn) (fun _ _ _ => rfl) rf_65_2 ?_
  refine g_iload_n dX6_exchange_72 rfl ?_
  refine g_iload_n dX6_exchange_73 rfl ?_
  refine g_iast dX6_exchange_74 sh_67 (al_67 hn) (Nat.le_of_ble_eq_true rfl) o2 ?_
  exact g_retV dX6_exchange_75 rfl w
