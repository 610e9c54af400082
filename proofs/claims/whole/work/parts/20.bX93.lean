theorem e_X12_thrown {l : Launch} {D : Nat} {ζ : ZP} {h : HI} {Q : Int → HI → Prop} (hn : 144 ≤ ζ.2.2.2.2) (w : Q (h 97 0) h) : RtI l (D + 1) mX12_thrown (zz ζ) [aP 97] h Q := by
  refine RtI.of 0 pn_X12 [aP 97] rfl rfl ?_
  refine g_aload_n dX12_thrown_0 rfl ?_
  refine g_getI (J := 0) dX12_thrown_1 fl_X12_1 sh_97 (al_97 hn) (fun _ _ _ => rfl) rfl ?_
  exact g_retI dX12_thrown_4 rfl w
theorem e_X12_throwsIf {l : Launch} {D : Nat} {ζ : ZP} {h : HI} {Q : Int → HI → Prop} {x1 : Int} (hn : 144 ≤ ζ.2.2.2.2) (w : (rg x1) ∧ (if x1 = 0 then ((x1 = 0 ∨ x1 = 1) ∧ Q x1 (hu h 97 0 0)) else ((x1 = 0 ∨ x1 = 1) ∧ Q x1 (hu h 97 0 1)))) : RtI l (D + 1) mX12_throwsIf (zz ζ) [aP 97, aI x1] h Q := by
  refine RtI.of 0 pn_X12 [aP 97, aI x1] rfl rfl ?_
  refine g_aload_n dX12_throwsIf_0 rfl ?_
  refine g_iload_n dX12_throwsIf_1 rfl ?_
  obtain ⟨o1, w⟩ := w
  refine g_if_eq (tgt := 9) dX12_throwsIf_2 rfl o1 ?_
  refine ite_imp (fun w => ?_) (fun w => ?_) w
  · refine g_iconst dX12_throwsIf_9 ?_
    refine g_putI (J := 0) dX12_throwsIf_10 fl_X12_1 sh_97 (al_97 hn) rfl rfl ?_
    refine g_iload_n dX12_throwsIf_13 rfl ?_
    obtain ⟨o2, w⟩ := w
    exact g_retZ dX12_throwsIf_14 rfl o2 w
  · refine g_iconst dX12_throwsIf_5 ?_
    refine g_goto (tgt := 10) dX12_throwsIf_6 rfl ?_
    refine g_putI (J := 0) dX12_throwsIf_10 fl_X12_1 sh_97 (al_97 hn) rfl rfl ?_
    refine g_iload_n dX12_throwsIf_13 rfl ?_
    obtain ⟨o3, w⟩ := w
    exact g_retZ dX12_throwsIf_14 rfl o3 w
theorem e_X12_feed {l : Launch} {D : Nat} {ζ : ZP} {h : HI} {Q : Int → HI → Prop} {x1 x2 x3 x4 x5 : Int} (hn : 144 ≤ ζ.2.2.2.2) (w : (rg ((h 97 2) + 20)) ∧ (if ((h 97 2) + 20) ≤ 540 then (RtV l D mX12_four (zz ζ) [aP 97, aI x1] (hu h 97 0 0) (fun h1 => RtV l D mX12_four (zz ζ) [aP 97, aI x2] h1 (fun h2 => RtV l D mX12_four (zz ζ) [aP 97, aI x3] h2 (fun h3 => RtV l D mX12_four (zz ζ) [aP 97, aI x4] h3 (fun h4 => RtV l D mX12_four (zz ζ) [aP 97, aI x5] h4 (fun h5 => Q (h5 97 2) h5)))))) else (Q (-1) (hu h 97 0 0)))) : RtI l (D + 1) mX12_feed (zz ζ) [aP 97, aI x1, aI x2, aI x3, aI x4, aI x5] h Q := by
  refine RtI.of 0 pn_X12 [aP 97, aI x1, aI x2, aI x3, aI x4, aI x5] rfl rfl ?_
  refine g_aload_n dX12_feed_0 rfl ?_
  refine g_iconst dX12_feed_1 ?_
  refine g_putI (J := 0) dX12_feed_2 fl_X12_1 sh_97 (al_97 hn) rfl rfl ?_
  refine g_aload_n dX12_feed_5 rfl ?_
  refine g_getI (J := 2) dX12_feed_6 fl_X12_7 sh_97 (al_97 hn) (fun _ _ _ => rfl) rfl ?_
  refine g_bipush dX12_feed_9 rfl ?_
  refine g_iadd dX12_feed_11 ?_
  refine g_sipush dX12_feed_12 rfl ?_
  obtain ⟨o1, w⟩ := w
  refine g_cmp_le (tgt := 20) dX12_feed_15 rfl o1 (by decide) ?_
  refine ite_imp (fun w => ?_) (fun w => ?_) w
  · refine g_aload_n dX12_feed_20 rfl ?_
    refine g_iload_n dX12_feed_21 rfl ?_
    refine g_callVV (n := 1) (As := [aI x1]) (st := []) dX12_feed_22 ml_X12_10 sh_97 rfl (al_97 hn) rfl rfl (Nat.le_of_ble_eq_true rfl) (RtV.mono w (fun h1 w => ?_))
    refine g_aload_n dX12_feed_25 rfl ?_
    refine g_iload_n dX12_feed_26 rfl ?_
    refine g_callVV (n := 1) (As := [aI x2]) (st := []) dX12_feed_27 ml_X12_10 sh_97 rfl (al_97 hn) rfl rfl (Nat.le_of_ble_eq_true rfl) (RtV.mono w (fun h2 w => ?_))
    refine g_aload_n dX12_feed_30 rfl ?_
    refine g_iload_n dX12_feed_31 rfl ?_
    refine g_callVV (n := 1) (As := [aI x3]) (st := []) dX12_feed_32 ml_X12_10 sh_97 rfl (al_97 hn) rfl rfl (Nat.le_of_ble_eq_true rfl) (RtV.mono w (fun h3 w => ?_))
    refine g_aload_n dX12_feed_35 rfl ?_
    refine g_iload dX12_feed_36 rfl ?_
    refine g_callVV (n := 1) (As := [aI x4]) (st := []) dX12_feed_38 ml_X12_10 sh_97 rfl (al_97 hn) rfl rfl (Nat.le_of_ble_eq_true rfl) (RtV.mono w (fun h4 w => ?_))
    refine g_aload_n dX12_feed_41 rfl ?_
    refine g_iload dX12_feed_42 rfl ?_
    refine g_callVV (n := 1) (As := [aI x5]) (st := []) dX12_feed_44 ml_X12_10 sh_97 rfl (al_97 hn) rfl rfl (Nat.le_of_ble_eq_true rfl) (RtV.mono w (fun h5 w => ?_))
    refine g_aload_n dX12_feed_47 rfl ?_
    refine g_getI (J := 2) dX12_feed_48 fl_X12_7 sh_97 (al_97 hn) (fun _ _ _ => rfl) rfl ?_
    exact g_retI dX12_feed_51 rfl w
  · refine g_iconst dX12_feed_18 ?_
    exact g_retI dX12_feed_19 rfl w
theorem b_X12_four_3 {l : Launch} {D : Nat} {ζ : ZP} {h : HI} {Q : HI → Prop} {x1 x2 : Int} (hn : 144 ≤ ζ.2.2.2.2) (w : (rg x2) ∧ (if x2 < 0 then (Q h) else ((0 ≤ (h 97 2) ∧ (h 97 2) < 540) ∧ G l (D + 1) 0 0 mX12_four (zz ζ) 3 [aP 97, aI x1, aI (x2 + (-8))] [] (hu (hu h 98 (h 97 2) (b8 (b8 (bshr x1 x2)))) 97 2 ((h 97 2) + 1)) (qV (zz ζ) Q)))) : G l (D + 1) 0 0 mX12_four (zz ζ) 3 [aP 97, aI x1, aI x2] [] h (qV (zz ζ) Q) := by
  refine g_iload_n dX12_four_3 rfl ?_
  obtain ⟨o1, w⟩ := w
  refine g_if_lt (tgt := 36) dX12_four_4 rfl o1 ?_
  refine ite_imp (fun w => ?_) (fun w => ?_) w
  · exact g_retV dX12_four_36 rfl w
  · refine g_aload_n dX12_four_7 rfl ?_
    refine g_getR dX12_four_8 fl_X12_14 sh_97 (al_97 hn) (fun _ _ _ => rfl) rf_97_1 ?_
    refine g_aload_n dX12_four_11 rfl ?_
    refine g_getI (J := 2) dX12_four_12 fl_X12_7 sh_97 (al_97 hn) (fun _ _ _ => rfl) rfl ?_
    refine g_iload_n dX12_four_15 rfl ?_
    refine g_iload_n dX12_four_16 rfl ?_
    refine g_ishr dX12_four_17 ?_
    refine g_i2b dX12_four_18 ?_
    obtain ⟨o2, w⟩ := w
    refine g_bast dX12_four_19 sh_98 (al_98 hn) (Nat.le_of_ble_eq_true rfl) o2 ?_
    refine g_aload_n dX12_four_20 rfl ?_
    refine g_dup dX12_four_21 rfl ?_
    refine g_getI (J := 2) dX12_four_22 fl_X12_7 sh_97 (al_97 hn) (fun _ _ _ => rfl) rfl ?_
    refine g_iconst dX12_four_25 ?_
    refine g_iadd dX12_four_26 ?_
    refine g_putI (J := 2) dX12_four_27 fl_X12_7 sh_97 (al_97 hn) rfl rfl ?_
    refine g_iinc (ls' := [aP 97, aI x1, aI (x2 + (-8))]) dX12_four_30 rfl (Nat.le_of_ble_eq_true rfl) rfl rfl ?_
    refine g_goto (tgt := 3) dX12_four_33 rfl ?_
    exact g_sub (ls' := [aP 97, aI x1, aI (x2 + (-8))]) ⟨Or.inr rfl, Or.inr rfl, Or.inr rfl, trivial⟩ w
theorem e_X12_four {l : Launch} {D : Nat} {ζ : ZP} {h : HI} {Q : HI → Prop} {x1 : Int} (hn : 144 ≤ ζ.2.2.2.2) (w : G l (D + 1) 0 0 mX12_four (zz ζ) 3 [aP 97, aI x1, aI 24] [] h (qV (zz ζ) Q)) : RtV l (D + 1) mX12_four (zz ζ) [aP 97, aI x1] h Q := by
  refine RtV.of 1 pn_X12 [aP 97, aI x1, aU] rfl rfl ?_
  refine g_bipush dX12_four_0 rfl ?_
  refine g_istore_n (ls' := [aP 97, aI x1, aI 24]) dX12_four_2 (Nat.le_of_ble_eq_true rfl) rfl rfl ?_
  exact g_sub (ls' := [aP 97, aI x1, aI 24]) ⟨Or.inr rfl, Or.inr rfl, Or.inr rfl, trivial⟩ w
theorem e_X12_end {l : Launch} {D : Nat} {ζ : ZP} {h : HI} {Q : Int → HI → Prop} {x1 : Int} (hn : 144 ≤ ζ.2.2.2.2) (w : (rg x1) ∧ (if x1 < 0 then (Q 0 (hu h 97 0 0)) else ((rg (h 97 2)) ∧ (if x1 ≤ (h 97 2) then (Q 1 (hu (hu h 97 0 0) 97 2 x1)) else (Q 0 (hu h 97 0 0)))))) : RtI l (D + 1) mX12_end (zz ζ) [aP 97, aI x1] h Q := by
  refine RtI.of 0 pn_X12 [aP 97, aI x1] rfl rfl ?_
  refine g_aload_n dX12_end_0 rfl ?_
  refine g_iconst dX12_end_1 ?_
  refine g_putI (J := 0) dX12_end_2 fl_X12_1 sh_97 (al_97 hn) rfl rfl ?_
  refine g_iload_n dX12_end_5 rfl ?_
  obtain ⟨o1, w⟩ := w
  refine g_if_lt (tgt := 17) dX12_end_6 rfl o1 ?_
  refine ite_imp (fun w => ?_) (fun w => ?_) w
  · refine g_iconst dX12_end_17 ?_
    exact g_retZ dX12_end_18 rfl (Or.inl rfl) w
  · refine g_iload_n dX12_end_9 rfl ?_
    refine g_aload_n dX12_end_10 rfl ?_
    refine g_getI (J := 2) dX12_end_11 fl_X12_7 sh_97 (al_97 hn) (fun _ _ _ => rfl) rfl ?_
    obtain ⟨o2, w⟩ := w
    refine g_cmp_le (tgt := 19) dX12_end_14 rfl o1 o2 ?_
    refine ite_imp (fun w => ?_) (fun w => ?_) w
    · refine g_aload_n dX12_end_19 rfl ?_
      refine g_iload_n dX12_end_20 rfl ?_
      refine g_putI (J := 2) dX12_end_21 fl_X12_7 sh_97 (al_97 hn) rfl rfl ?_
      refine g_iconst dX12_end_24 ?_
      exact g_retZ dX12_end_25 rfl (Or.inr rfl) w
    · refine g_iconst dX12_end_17 ?_
      exact g_retZ dX12_end_18 rfl (Or.inl rfl) w
theorem e_X12_taken {l : Launch} {D : Nat} {ζ : ZP} {h : HI} {Q : HI → Prop} {x1 : Int} (hn : 144 ≤ ζ.2.2.2.2) (w : Q (hu (hu (hu (hu h 97 3 (h 97 2)) 97 2 0) 97 4 0) 97 5 x1)) : RtV l (D + 1) mX12_taken (zz ζ) [aP 97, aI x1] h Q := by
  refine RtV.of 0 pn_X12 [aP 97, aI x1] rfl rfl ?_
  refine g_aload_n dX12_taken_0 rfl ?_
  refine g_aload_n dX12_taken_1 rfl ?_
  refine g_getI (J := 2) dX12_taken_2 fl_X12_7 sh_97 (al_97 hn) (fun _ _ _ => rfl) rfl ?_
  refine g_putI (J := 3) dX12_taken_5 fl_X12_18 sh_97 (al_97 hn) rfl rfl ?_
  refine g_aload_n dX12_taken_8 rfl ?_
  refine g_iconst dX12_taken_9 ?_
  refine g_putI (J := 2) dX12_taken_10 fl_X12_7 sh_97 (al_97 hn) rfl rfl ?_
  refine g_aload_n dX12_taken_13 rfl ?_
  refine g_iconst dX12_taken_14 ?_
  refine g_putI (J := 4) dX12_taken_15 fl_X12_21 sh_97 (al_97 hn) rfl rfl ?_
  refine g_aload_n dX12_taken_18 rfl ?_
  refine g_iload_n dX12_taken_19 rfl ?_
  refine g_putI (J := 5) dX12_taken_20 fl_X12_24 sh_97 (al_97 hn) rfl rfl ?_
  exact g_retV dX12_taken_23 rfl w
theorem e_X12_isIn {l : Launch} {D : Nat} {ζ : ZP} {h : HI} {Q : Int → HI → Prop} {x0 x1 x2 : Int} (hn : 144 ≤ ζ.2.2.2.2) (w : (rg x0) ∧ (rg x1) ∧ (if x0 < x1 then (Q 0 h) else ((rg x2) ∧ (if x2 < x0 then (Q 0 h) else (Q 1 h))))) : RtI l (D + 1) mX12_isIn (zz ζ) [aI x0, aI x1, aI x2] h Q := by
  refine RtI.of 0 pn_X12 [aI x0, aI x1, aI x2] rfl rfl ?_
  refine g_iload_n dX12_isIn_0 rfl ?_
  refine g_iload_n dX12_isIn_1 rfl ?_
  obtain ⟨o1, w⟩ := w
  obtain ⟨o2, w⟩ := w
  refine g_cmp_lt (tgt := 14) dX12_isIn_2 rfl o1 o2 ?_
  refine ite_imp (fun w => ?_) (fun w => ?_) w
  · refine g_iconst dX12_isIn_14 ?_
    exact g_retZ dX12_isIn_15 rfl (Or.inl rfl) w
  · refine g_iload_n dX12_isIn_5 rfl ?_
    refine g_iload_n dX12_isIn_6 rfl ?_
    obtain ⟨o3, w⟩ := w
    refine g_cmp_gt (tgt := 14) dX12_isIn_7 rfl o1 o3 ?_
    refine ite_imp (fun w => ?_) (fun w => ?_) w
    · refine g_iconst dX12_isIn_14 ?_
      exact g_retZ dX12_isIn_15 rfl (Or.inl rfl) w
    · refine g_iconst dX12_isIn_10 ?_
      refine g_goto (tgt := 15) dX12_isIn_11 rfl ?_
      exact g_retZ dX12_isIn_15 rfl (Or.inr rfl) w
theorem e_X12_plain {l : Launch} {D : Nat} {ζ : ZP} {h : HI} {Q : Int → HI → Prop} {x0 : Int} (hn : 144 ≤ ζ.2.2.2.2) (w : (rg x0) ∧ (if 0 ≤ x0 then (Q x0 h) else (Q (-x0) h))) : RtI l (D + 1) mX12_plain (zz ζ) [aI x0] h Q := by
  refine RtI.of 0 pn_X12 [aI x0] rfl rfl ?_
  refine g_iload_n dX12_plain_0 rfl ?_
  obtain ⟨o1, w⟩ := w
  refine g_if_ge (tgt := 9) dX12_plain_1 rfl o1 ?_
  refine ite_imp (fun w => ?_) (fun w => ?_) w
  · refine g_iload_n dX12_plain_9 rfl ?_
    exact g_retI dX12_plain_10 rfl w
  · refine g_iload_n dX12_plain_4 rfl ?_
    refine g_ineg dX12_plain_5 ?_
    refine g_goto (tgt := 10) dX12_plain_6 rfl ?_
    exact g_retI dX12_plain_10 rfl w
theorem e_X12_octet {l : Launch} {D : Nat} {ζ : ZP} {h : HI} {Q : Int → HI → Prop} {x1 : Int} (hn : 144 ≤ ζ.2.2.2.2) (w : (0 ≤ x1 ∧ x1 < 540) ∧ Q (band (h 98 x1) 255) h) : RtI l (D + 1) mX12_octet (zz ζ) [aP 97, aI x1] h Q := by
  refine RtI.of 0 pn_X12 [aP 97, aI x1] rfl rfl ?_
  refine g_aload_n dX12_octet_0 rfl ?_
  refine g_getR dX12_octet_1 fl_X12_14 sh_97 (al_97 hn) (fun _ _ _ => rfl) rf_97_1 ?_
  refine g_iload_n dX12_octet_4 rfl ?_
  obtain ⟨o1, w⟩ := w
  refine g_bald dX12_octet_5 sh_98 (al_98 hn) (Nat.le_of_ble_eq_true rfl) o1 ?_
  refine g_sipush dX12_octet_6 rfl ?_
  refine g_iand dX12_octet_9 ?_
  exact g_retI dX12_octet_10 rfl w
theorem e_X12_plainHouse {l : Launch} {D : Nat} {ζ : ZP} {h : HI} {Q : HI → Prop} (hn : 144 ≤ ζ.2.2.2.2) (w : Q (hu (hu (hu (hu (hu (hu (hu (hu (hu (hu (hu h 100 0 0) 100 1 0) 100 2 2) 100 3 1) 100 4 100) 100 5 5) 100 6 100) 100 7 2) 100 8 3) 100 9 20) 100 10 40)) : RtV l (D + 1) mX12_plainHouse (zz ζ) [aP 97] h Q := by
  refine RtV.of 0 pn_X12 [aP 97] rfl rfl ?_
  refine g_aload_n dX12_plainHouse_0 rfl ?_
  refine g_getR dX12_plainHouse_1 fl_X12_37 sh_97 (al_97 hn) (fun _ _ _ => rfl) rf_97_7 ?_
  refine g_iconst dX12_plainHouse_4 ?_
  refine g_iconst dX12_plainHouse_5 ?_
  refine g_iast dX12_plainHouse_6 sh_100 (al_100 hn) (Nat.le_of_ble_eq_true rfl) (by decide) ?_
  refine g_aload_n dX12_plainHouse_7 rfl ?_
  refine g_getR dX12_plainHouse_8 fl_X12_37 sh_97 (al_97 hn) (fun _ _ _ => rfl) rf_97_7 ?_
  refine g_iconst dX12_plainHouse_11 ?_
  refine g_iconst dX12_plainHouse_12 ?_
  refine g_iast dX12_plainHouse_13 sh_100 (al_100 hn) (Nat.le_of_ble_eq_true rfl) (by decide) ?_
  refine g_aload_n dX12_plainHouse_14 rfl ?_
  refine g_getR dX12_plainHouse_15 fl_X12_37 sh_97 (al_97 hn) (fun _ _ _ => rfl) rf_97_7 ?_
  refine g_iconst dX12_plainHouse_18 ?_
  refine g_iconst dX12_plainHouse_19 ?_
  refine g_iast dX12_plainHouse_20 sh_100 (al_100 hn) (Nat.le_of_ble_eq_true rfl) (by decide) ?_
  refine g_aload_n dX12_plainHouse_21 rfl ?_
  refine g_getR dX12_plainHouse_22 fl_X12_37 sh_97 (al_97 hn) (fun _ _ _ => rfl) rf_97_7 ?_
  refine g_iconst dX12_plainHouse_25 ?_
  refine g_iconst dX12_plainHouse_26 ?_
  refine g_iast dX12_plainHouse_27 sh_100 (al_100 hn) (Nat.le_of_ble_eq_true rfl) (by decide) ?_
  refine g_aload_n dX12_plainHouse_28 rfl ?_
  refine g_getR dX12_plainHouse_29 fl_X12_37 sh_97 (al_97 hn) (fun _ _ _ => rfl) rf_97_7 ?_
  refine g_iconst dX12_plainHouse_32 ?_
  refine g_bipush dX12_plainHouse_33 rfl ?_
  refine g_iast dX12_plainHouse_35 sh_100 (al_100 hn) (Nat.le_of_ble_eq_true rfl) (by decide) ?_
  refine g_aload_n dX12_plainHouse_36 rfl ?_
  refine g_getR dX12_plainHouse_37 fl_X12_37 sh_97 (al_97 hn) (fun _ _ _ => rfl) rf_97_7 ?_
  refine g_iconst dX12_plainHouse_40 ?_
  refine g_iconst dX12_plainHouse_41 ?_
  refine g_iast dX12_plainHouse_42 sh_100 (al_100 hn) (Nat.le_of_ble_eq_true rfl) (by decide) ?_
  refine g_aload_n dX12_plainHouse_43 rfl ?_
  refine g_getR dX12_plainHouse_44 fl_X12_37 sh_97 (al_97 hn) (fun _ _ _ => rfl) rf_97_7 ?_
  refine g_bipush dX12_plainHouse_47 rfl ?_
  refine g_bipush dX12_plainHouse_49 rfl ?_
  refine g_iast dX12_plainHouse_51 sh_100 (al_100 hn) (Nat.le_of_ble_eq_true rfl) (by decide) ?_
  refine g_aload_n dX12_plainHouse_52 rfl ?_
  refine g_getR dX12_plainHouse_53 fl_X12_37 sh_97 (al_97 hn) (fun _ _ _ => rfl) rf_97_7 ?_
  refine g_bipush dX12_plainHouse_56 rfl ?_
  refine g_iconst dX12_plainHouse_58 ?_
  refine g_iast dX12_plainHouse_59 sh_100 (al_100 hn) (Nat.le_of_ble_eq_true rfl) (by decide) ?_
  refine g_aload_n dX12_plainHouse_60 rfl ?_
  refine g_getR dX12_plainHouse_61 fl_X12_37 sh_97 (al_97 hn) (fun _ _ _ => rfl) rf_97_7 ?_
  refine g_bipush dX12_plainHouse_64 rfl ?_
  refine g_iconst dX12_plainHouse_66 ?_
  refine g_iast dX12_plainHouse_67 sh_100 (al_100 hn) (Nat.le_of_ble_eq_true rfl) (by decide) ?_
  refine g_aload_n dX12_plainHouse_68 rfl ?_
  refine g_getR dX12_plainHouse_69 fl_X12_37 sh_97 (al_97 hn) (fun _ _ _ => rfl) rf_97_7 ?_
  refine g_bipush dX12_plainHouse_72 rfl ?_
  refine g_bipush dX12_plainHouse_74 rfl ?_
  refine g_iast dX12_plainHouse_76 sh_100 (al_100 hn) (Nat.le_of_ble_eq_true rfl) (by decide) ?_
  refine g_aload_n dX12_plainHouse_77 rfl ?_
  refine g_getR dX12_plainHouse_78 fl_X12_37 sh_97 (al_97 hn) (fun _ _ _ => rfl) rf_97_7 ?_
  refine g_bipush dX12_plainHouse_81 rfl ?_
  refine g_bipush dX12_plainHouse_83 rfl ?_
  refine g_iast dX12_plainHouse_85 sh_100 (al_100 hn) (Nat.le_of_ble_eq_true rfl) (by decide) ?_
  exact g_retV dX12_plainHouse_86 rfl w
theorem e_X12_peek {l : Launch} {D : Nat} {ζ : ZP} {h : HI} {Q : Int → HI → Prop} (hn : 144 ≤ ζ.2.2.2.2) (w : (rg (h 97 4)) ∧ (rg (h 97 3)) ∧ (if (h 97 3) ≤ (h 97 4) then (Q (-1) h) else ((0 ≤ (h 97 4) ∧ (h 97 4) < 540) ∧ Q (band (h 98 (h 97 4)) 255) h))) : RtI l (D + 1) mX12_peek (zz ζ) [aP 97] h Q := by
  refine RtI.of 0 pn_X12 [aP 97] rfl rfl ?_
  refine g_aload_n dX12_peek_0 rfl ?_
  refine g_getI (J := 4) dX12_peek_1 fl_X12_21 sh_97 (al_97 hn) (fun _ _ _ => rfl) rfl ?_
  refine g_aload_n dX12_peek_4 rfl ?_
  refine g_getI (J := 3) dX12_peek_5 fl_X12_18 sh_97 (al_97 hn) (fun _ _ _ => rfl) rfl ?_
  obtain ⟨o1, w⟩ := w
  obtain ⟨o2, w⟩ := w
  refine g_cmp_ge (tgt := 27) dX12_peek_8 rfl o1 o2 ?_
  refine ite_imp (fun w => ?_) (fun w => ?_) w
  · refine g_iconst dX12_peek_27 ?_
    exact g_retI dX12_peek_28 rfl w
  · refine g_aload_n dX12_peek_11 rfl ?_
    refine g_getR dX12_peek_12 fl_X12_14 sh_97 (al_97 hn) (fun _ _ _ => rfl) rf_97_1 ?_
    refine g_aload_n dX12_peek_15 rfl ?_
    refine g_getI (J := 4) dX12_peek_16 fl_X12_21 sh_97 (al_97 hn) (fun _ _ _ => rfl) rfl ?_
    obtain ⟨o3, w⟩ := w
    refine g_bald dX12_peek_19 sh_98 (al_98 hn) (Nat.le_of_ble_eq_true rfl) o3 ?_
    refine g_sipush dX12_peek_20 rfl ?_
    refine g_iand dX12_peek_23 ?_
    refine g_goto (tgt := 28) dX12_peek_24 rfl ?_
    exact g_retI dX12_peek_28 rfl w
theorem e_X12_isSmall {l : Launch} {D : Nat} {ζ : ZP} {h : HI} {Q : Int → HI → Prop} {x0 : Int} (hn : 144 ≤ ζ.2.2.2.2) (w : (rg x0) ∧ (if x0 < 97 then (Q 0 h) else (if 122 < x0 then (Q 0 h) else (Q 1 h)))) : RtI l (D + 1) mX12_isSmall (zz ζ) [aI x0] h Q := by
  refine RtI.of 0 pn_X12 [aI x0] rfl rfl ?_
  refine g_iload_n dX12_isSmall_0 rfl ?_
  refine g_bipush dX12_isSmall_1 rfl ?_
  obtain ⟨o1, w⟩ := w
  refine g_cmp_lt (tgt := 16) dX12_isSmall_3 rfl o1 (by decide) ?_
  refine ite_imp (fun w => ?_) (fun w => ?_) w
  · refine g_iconst dX12_isSmall_16 ?_
    exact g_retZ dX12_isSmall_17 rfl (Or.inl rfl) w
  · refine g_iload_n dX12_isSmall_6 rfl ?_
    refine g_bipush dX12_isSmall_7 rfl ?_
    refine g_cmp_gt (tgt := 16) dX12_isSmall_9 rfl o1 (by decide) ?_
    refine ite_imp (fun w => ?_) (fun w => ?_) w
    · refine g_iconst dX12_isSmall_16 ?_
      exact g_retZ dX12_isSmall_17 rfl (Or.inl rfl) w
    · refine g_iconst dX12_isSmall_12 ?_
      refine g_goto (tgt := 17) dX12_isSmall_13 rfl ?_
      exact g_retZ dX12_isSmall_17 rfl (Or.inr rfl) w
theorem e_X12_isDigit {l : Launch} {D : Nat} {ζ : ZP} {h : HI} {Q : Int → HI → Prop} {x0 : Int} (hn : 144 ≤ ζ.2.2.2.2) (w : (rg x0) ∧ (if x0 < 48 then (Q 0 h) else (if 57 < x0 then (Q 0 h) else (Q 1 h)))) : RtI l (D + 1) mX12_isDigit (zz ζ) [aI x0] h Q := by
  refine RtI.of 0 pn_X12 [aI x0] rfl rfl ?_
  refine g_iload_n dX12_isDigit_0 rfl ?_
  refine g_bipush dX12_isDigit_1 rfl ?_
  obtain ⟨o1, w⟩ := w
  refine g_cmp_lt (tgt := 16) dX12_isDigit_3 rfl o1 (by decide) ?_
  refine ite_imp (fun w => ?_) (fun w => ?_) w
  · refine g_iconst dX12_isDigit_16 ?_
    exact g_retZ dX12_isDigit_17 rfl (Or.inl rfl) w
  · refine g_iload_n dX12_isDigit_6 rfl ?_
    refine g_bipush dX12_isDigit_7 rfl ?_
    refine g_cmp_gt (tgt := 16) dX12_isDigit_9 rfl o1 (by decide) ?_
    refine ite_imp (fun w => ?_) (fun w => ?_) w
    · refine g_iconst dX12_isDigit_16 ?_
      exact g_retZ dX12_isDigit_17 rfl (Or.inl rfl) w
    · refine g_iconst dX12_isDigit_12 ?_
      refine g_goto (tgt := 17) dX12_isDigit_13 rfl ?_
      exact g_retZ dX12_isDigit_17 rfl (Or.inr rfl) w
theorem b_X12_next_0 {l : Launch} {D : Nat} {ζ : ZP} {h : HI} {Q : HI → Prop} (hn : 144 ≤ ζ.2.2.2.2) (w : RtI l D mX12_peek (zz ζ) [aP 97] h (fun r1 h1 => (rg r1) ∧ (if r1 = 32 then (G l (D + 1) 0 0 mX12_next (zz ζ) 0 [aP 97, aU, aU, aU] [] (hu h1 97 4 ((h1 97 4) + 1)) (qV (zz ζ) Q)) else (RtI l D mX12_peek (zz ζ) [aP 97] h1 (fun r2 h2 => (rg r2) ∧ (if ¬ r2 = 10 then ((rg (h2 97 3)) ∧ (rg (h2 97 5)) ∧ (if (h2 97 3) ≤ (h2 97 5) then (G l (D + 1) 0 0 mX12_next (zz ζ) 80 [aP 97, aU, aU, aU] [] (hu (hu h2 97 11 (h2 97 4)) 97 12 0) (qV (zz ζ) Q)) else ((rg (h2 97 4)) ∧ (if (h2 97 4) < (h2 97 5) then (G l (D + 1) 0 0 mX12_next (zz ζ) 80 [aP 97, aU, aU, aU] [] (hu (hu h2 97 11 (h2 97 4)) 97 12 0) (qV (zz ζ) Q)) else (Q (hu (hu (hu (hu h2 97 11 (h2 97 4)) 97 12 0) 97 11 (h2 97 5)) 97 10 4)))))) else (G l (D + 1) 0 0 mX12_next (zz ζ) 0 [aP 97, aU, aU, aU] [] (hu h2 97 4 ((h2 97 4) + 1)) (qV (zz ζ) Q)))))))) : G l (D + 1) 0 0 mX12_next (zz ζ) 0 [aP 97, aU, aU, aU] [] h (qV (zz ζ) Q) := by
  refine g_aload_n dX12_next_0 rfl ?_
  refine g_callVI (n := 0) (As := []) (st := []) dX12_next_1 ml_X12_220 sh_97 rfl (al_97 hn) rfl rfl (Nat.le_of_ble_eq_true rfl) (RtI.mono w (fun r1 h1 w => ?_))
  refine g_bipush dX12_next_4 rfl ?_
  obtain ⟨o1, w⟩ := w
  refine g_cmp_eq (tgt := 18) dX12_next_6 rfl o1 (by decide) ?_
  refine ite_imp (fun w => ?_) (fun w => ?_) w
  · refine g_aload_n dX12_next_18 rfl ?_
    refine g_dup dX12_next_19 rfl ?_
    refine g_getI (J := 4) dX12_next_20 fl_X12_21 sh_97 (al_97 hn) (fun _ _ _ => rfl) rfl ?_
    refine g_iconst dX12_next_23 ?_
    refine g_iadd dX12_next_24 ?_
    refine g_putI (J := 4) dX12_next_25 fl_X12_21 sh_97 (al_97 hn) rfl rfl ?_
    refine g_goto (tgt := 0) dX12_next_28 rfl ?_
    exact g_sub (ls' := [aP 97, aU, aU, aU]) ⟨Or.inr rfl, Or.inl rfl, Or.inl rfl, Or.inl rfl, trivial⟩ w
  · refine g_aload_n dX12_next_9 rfl ?_
    refine g_callVI (n := 0) (As := []) (st := []) dX12_next_10 ml_X12_220 sh_97 rfl (al_97 hn) rfl rfl (Nat.le_of_ble_eq_true rfl) (RtI.mono w (fun r2 h2 w => ?_))
    refine g_bipush dX12_next_13 rfl ?_
    obtain ⟨o2, w⟩ := w
    refine g_cmp_ne (tgt := 31) dX12_next_15 rfl o2 (by decide) ?_
    refine ite_imp (fun w => ?_) (fun w => ?_) w
    · refine g_aload_n dX12_next_31 rfl ?_
      refine g_aload_n dX12_next_32 rfl ?_
      refine g_getI (J := 4) dX12_next_33 fl_X12_21 sh_97 (al_97 hn) (fun _ _ _ => rfl) rfl ?_
      refine g_putI (J := 11) dX12_next_36 fl_X12_224 sh_97 (al_97 hn) rfl rfl ?_
      refine g_aload_n dX12_next_39 rfl ?_
      refine g_iconst dX12_next_40 ?_
      refine g_putI (J := 12) dX12_next_41 fl_X12_227 sh_97 (al_97 hn) rfl rfl ?_
      refine g_aload_n dX12_next_44 rfl ?_
      refine g_getI (J := 3) dX12_next_45 fl_X12_18 sh_97 (al_97 hn) (fun _ _ _ => rfl) rfl ?_
      refine g_aload_n dX12_next_48 rfl ?_
      refine g_getI (J := 5) dX12_next_49 fl_X12_24 sh_97 (al_97 hn) (fun _ _ _ => rfl) rfl ?_
      obtain ⟨o3, w⟩ := w
      obtain ⟨o4, w⟩ := w
      refine g_cmp_le (tgt := 80) dX12_next_52 rfl o3 o4 ?_
      refine ite_imp (fun w => ?_) (fun w => ?_) w
      · exact g_sub (ls' := [aP 97, aU, aU, aU]) ⟨Or.inr rfl, Or.inl rfl, Or.inl rfl, Or.inl rfl, trivial⟩ w
      · refine g_aload_n dX12_next_55 rfl ?_
        refine g_getI (J := 4) dX12_next_56 fl_X12_21 sh_97 (al_97 hn) (fun _ _ _ => rfl) rfl ?_
        refine g_aload_n dX12_next_59 rfl ?_
        refine g_getI (J := 5) dX12_next_60 fl_X12_24 sh_97 (al_97 hn) (fun _ _ _ => rfl) rfl ?_
        obtain ⟨o5, w⟩ := w
        refine g_cmp_lt (tgt := 80) dX12_next_63 rfl o5 o4 ?_
        refine ite_imp (fun w => ?_) (fun w => ?_) w
        · exact g_sub (ls' := [aP 97, aU, aU, aU]) ⟨Or.inr rfl, Or.inl rfl, Or.inl rfl, Or.inl rfl, trivial⟩ w
        · refine g_aload_n dX12_next_66 rfl ?_
          refine g_aload_n dX12_next_67 rfl ?_
          refine g_getI (J := 5) dX12_next_68 fl_X12_24 sh_97 (al_97 hn) (fun _ _ _ => rfl) rfl ?_
          refine g_putI (J := 11) dX12_next_71 fl_X12_224 sh_97 (al_97 hn) rfl rfl ?_
          refine g_aload_n dX12_next_74 rfl ?_
          refine g_iconst dX12_next_75 ?_
          refine g_putI (J := 10) dX12_next_76 fl_X12_230 sh_97 (al_97 hn) rfl rfl ?_
          exact g_retV dX12_next_79 rfl w
    · refine g_aload_n dX12_next_18 rfl ?_
      refine g_dup dX12_next_19 rfl ?_
      refine g_getI (J := 4) dX12_next_20 fl_X12_21 sh_97 (al_97 hn) (fun _ _ _ => rfl) rfl ?_
      refine g_iconst dX12_next_23 ?_
      refine g_iadd dX12_next_24 ?_
      refine g_putI (J := 4) dX12_next_25 fl_X12_21 sh_97 (al_97 hn) rfl rfl ?_
      refine g_goto (tgt := 0) dX12_next_28 rfl ?_
      exact g_sub (ls' := [aP 97, aU, aU, aU]) ⟨Or.inr rfl, Or.inl rfl, Or.inl rfl, Or.inl rfl, trivial⟩ w
theorem b_X12_next_80 {l : Launch} {D : Nat} {ζ : ZP} {h : HI} {Q : HI → Prop} (hn : 144 ≤ ζ.2.2.2.2) (w : RtI l D mX12_peek (zz ζ) [aP 97] h (fun r1 h1 => (rg r1) ∧ (if 0 ≤ r1 then (RtI l D mX12_isSmall (zz ζ) [aI r1] h1 (fun r2 h2 => (rg r2) ∧ (if ¬ r2 = 0 then (RtI l D mX12_isSmall (zz ζ) [aI r1] h2 (fun r3 h3 => G l (D + 1) 0 0 mX12_next (zz ζ) 193 [aP 97, aU, aI r3, aI 1] [] (hu (hu h3 97 16 0) 97 13 0) (qV (zz ζ) Q))) else (RtI l D mX12_isDigit (zz ζ) [aI r1] h2 (fun r4 h4 => (rg r4) ∧ (if ¬ r4 = 0 then (RtI l D mX12_isSmall (zz ζ) [aI r1] h4 (fun r5 h5 => G l (D + 1) 0 0 mX12_next (zz ζ) 193 [aP 97, aU, aI r5, aI 1] [] (hu (hu h5 97 16 0) 97 13 0) (qV (zz ζ) Q))) else (if r1 = 59 then (Q (hu (hu (hu h4 97 10 3) 97 13 r1) 97 4 ((h4 97 4) + 1))) else (if r1 = 43 then (Q (hu (hu (hu h4 97 10 3) 97 13 r1) 97 4 ((h4 97 4) + 1))) else (if r1 = 45 then (Q (hu (hu (hu h4 97 10 3) 97 13 r1) 97 4 ((h4 97 4) + 1))) else (if r1 = 40 then (Q (hu (hu (hu h4 97 10 3) 97 13 r1) 97 4 ((h4 97 4) + 1))) else (if r1 = 41 then (Q (hu (hu (hu h4 97 10 3) 97 13 r1) 97 4 ((h4 97 4) + 1))) else (if r1 < 60 then (Q (hu (hu (hu h4 97 10 4) 97 13 r1) 97 4 ((h4 97 4) + 1))) else (if 62 < r1 then (Q (hu (hu (hu h4 97 10 4) 97 13 r1) 97 4 ((h4 97 4) + 1))) else (Q (hu (hu (hu h4 97 10 3) 97 13 r1) 97 4 ((h4 97 4) + 1)))))))))))))))) else (Q (hu h1 97 10 0))))) : G l (D + 1) 0 0 mX12_next (zz ζ) 80 [aP 97, aU, aU, aU] [] h (qV (zz ζ) Q) := by
  refine g_aload_n dX12_next_80 rfl ?_
  refine g_callVI (n := 0) (As := []) (st := []) dX12_next_81 ml_X12_220 sh_97 rfl (al_97 hn) rfl rfl (Nat.le_of_ble_eq_true rfl) (RtI.mono w (fun r1 h1 w => ?_))
  refine g_istore_n (ls' := [aP 97, aI r1, aU, aU]) dX12_next_84 (Nat.le_of_ble_eq_true rfl) rfl rfl ?_
  refine g_iload_n dX12_next_85 rfl ?_
  obtain ⟨o1, w⟩ := w
  refine g_if_ge (tgt := 95) dX12_next_86 rfl o1 ?_
  refine ite_imp (fun w => ?_) (fun w => ?_) w
  · refine g_iload_n dX12_next_95 rfl ?_
    refine g_callSI (n := 1) (As := [aI r1]) (st := []) dX12_next_96 ml_X12_233 rfl rfl (Nat.le_of_ble_eq_true rfl) rfl (RtI.mono w (fun r2 h2 w => ?_))
    obtain ⟨o2, w⟩ := w
    refine g_if_ne (tgt := 176) dX12_next_99 rfl o2 ?_
    refine ite_imp (fun w => ?_) (fun w => ?_) w
    · refine g_iload_n dX12_next_176 rfl ?_
      refine g_callSI (n := 1) (As := [aI r1]) (st := []) dX12_next_177 ml_X12_233 rfl rfl (Nat.le_of_ble_eq_true rfl) rfl (RtI.mono w (fun r3 h3 w => ?_))
      refine g_istore_n (ls' := [aP 97, aI r1, aI r3, aU]) dX12_next_180 (Nat.le_of_ble_eq_true rfl) rfl rfl ?_
      refine g_iconst dX12_next_181 ?_
      refine g_istore_n (ls' := [aP 97, aI r1, aI r3, aI 1]) dX12_next_182 (Nat.le_of_ble_eq_true rfl) rfl rfl ?_
      refine g_aload_n dX12_next_183 rfl ?_
      refine g_lconst (v := 0) dX12_next_184 rfl ?_
      refine g_putJ (J := 16) dX12_next_185 fl_X12_243 sh_97 (al_97 hn) rfl rfl ?_
      refine g_aload_n dX12_next_188 rfl ?_
      refine g_iconst dX12_next_189 ?_
      refine g_putI (J := 13) dX12_next_190 fl_X12_240 sh_97 (al_97 hn) rfl rfl ?_
      exact g_sub (ls' := [aP 97, aU, aI r3, aI 1]) ⟨Or.inr rfl, Or.inl rfl, Or.inr rfl, Or.inr rfl, trivial⟩ w
    · refine g_iload_n dX12_next_102 rfl ?_
      refine g_callSI (n := 1) (As := [aI r1]) (st := []) dX12_next_103 ml_X12_237 rfl rfl (Nat.le_of_ble_eq_true rfl) rfl (RtI.mono w (fun r4 h4 w => ?_))
      obtain ⟨o3, w⟩ := w
      refine g_if_ne (tgt := 176) dX12_next_106 rfl o3 ?_
      refine ite_imp (fun w => ?_) (fun w => ?_) w
      · refine g_iload_n dX12_next_176 rfl ?_
        refine g_callSI (n := 1) (As := [aI r1]) (st := []) dX12_next_177 ml_X12_233 rfl rfl (Nat.le_of_ble_eq_true rfl) rfl (RtI.mono w (fun r5 h5 w => ?_))
        refine g_istore_n (ls' := [aP 97, aI r1, aI r5, aU]) dX12_next_180 (Nat.le_of_ble_eq_true rfl) rfl rfl ?_
        refine g_iconst dX12_next_181 ?_
        refine g_istore_n (ls' := [aP 97, aI r1, aI r5, aI 1]) dX12_next_182 (Nat.le_of_ble_eq_true rfl) rfl rfl ?_
        refine g_aload_n dX12_next_183 rfl ?_
        refine g_lconst (v := 0) dX12_next_184 rfl ?_
        refine g_putJ (J := 16) dX12_next_185 fl_X12_243 sh_97 (al_97 hn) rfl rfl ?_
        refine g_aload_n dX12_next_188 rfl ?_
        refine g_iconst dX12_next_189 ?_
        refine g_putI (J := 13) dX12_next_190 fl_X12_240 sh_97 (al_97 hn) rfl rfl ?_
        exact g_sub (ls' := [aP 97, aU, aI r5, aI 1]) ⟨Or.inr rfl, Or.inl rfl, Or.inr rfl, Or.inr rfl, trivial⟩ w
      · refine g_aload_n dX12_next_109 rfl ?_
        refine g_iload_n dX12_next_110 rfl ?_
        refine g_bipush dX12_next_111 rfl ?_
        refine g_cmp_eq (tgt := 152) dX12_next_113 rfl o1 (by decide) ?_
        refine ite_imp (fun w => ?_) (fun w => ?_) w
        · refine g_iconst dX12_next_152 ?_
          refine g_goto (tgt := 157) dX12_next_153 rfl ?_
          refine g_putI (J := 10) dX12_next_157 fl_X12_230 sh_97 (al_97 hn) rfl rfl ?_
          refine g_aload_n dX12_next_160 rfl ?_
          refine g_iload_n dX12_next_161 rfl ?_
          refine g_putI (J := 13) dX12_next_162 fl_X12_240 sh_97 (al_97 hn) rfl rfl ?_
          refine g_aload_n dX12_next_165 rfl ?_
          refine g_dup dX12_next_166 rfl ?_
          refine g_getI (J := 4) dX12_next_167 fl_X12_21 sh_97 (al_97 hn) (fun _ _ _ => rfl) rfl ?_
          refine g_iconst dX12_next_170 ?_
          refine g_iadd dX12_next_171 ?_
          refine g_putI (J := 4) dX12_next_172 fl_X12_21 sh_97 (al_97 hn) rfl rfl ?_
          exact g_retV dX12_next_175 rfl w
        · refine g_iload_n dX12_next_116 rfl ?_
          refine g_bipush dX12_next_117 rfl ?_
          refine g_cmp_eq (tgt := 152) dX12_next_119 rfl o1 (by decide) ?_
          refine ite_imp (fun w => ?_) (fun w => ?_) w
          · refine g_iconst dX12_next_152 ?_
            refine g_goto (tgt := 157) dX12_next_153 rfl ?_
            refine g_putI (J := 10) dX12_next_157 fl_X12_230 sh_97 (al_97 hn) rfl rfl ?_
            refine g_aload_n dX12_next_160 rfl ?_
            refine g_iload_n dX12_next_161 rfl ?_
            refine g_putI (J := 13) dX12_next_162 fl_X12_240 sh_97 (al_97 hn) rfl rfl ?_
            refine g_aload_n dX12_next_165 rfl ?_
            refine g_dup dX12_next_166 rfl ?_
            refine g_getI (J := 4) dX12_next_167 fl_X12_21 sh_97 (al_97 hn) (fun _ _ _ => rfl) rfl ?_
            refine g_iconst dX12_next_170 ?_
            refine g_iadd dX12_next_171 ?_
            refine g_putI (J := 4) dX12_next_172 fl_X12_21 sh_97 (al_97 hn) rfl rfl ?_
            exact g_retV dX12_next_175 rfl w
          · refine g_iload_n dX12_next_122 rfl ?_
            refine g_bipush dX12_next_123 rfl ?_
            refine g_cmp_eq (tgt := 152) dX12_next_125 rfl o1 (by decide) ?_
            refine ite_imp (fun w => ?_) (fun w => ?_) w
            · refine g_iconst dX12_next_152 ?_
              refine g_goto (tgt := 157) dX12_next_153 rfl ?_
              refine g_putI (J := 10) dX12_next_157 fl_X12_230 sh_97 (al_97 hn) rfl rfl ?_
              refine g_aload_n dX12_next_160 rfl ?_
              refine g_iload_n dX12_next_161 rfl ?_
              refine g_putI (J := 13) dX12_next_162 fl_X12_240 sh_97 (al_97 hn) rfl rfl ?_
              refine g_aload_n dX12_next_165 rfl ?_
              refine g_dup dX12_next_166 rfl ?_
              refine g_getI (J := 4) dX12_next_167 fl_X12_21 sh_97 (al_97 hn) (fun _ _ _ => rfl) rfl ?_
              refine g_iconst dX12_next_170 ?_
              refine g_iadd dX12_next_171 ?_
              refine g_putI (J := 4) dX12_next_172 fl_X12_21 sh_97 (al_97 hn) rfl rfl ?_
              exact g_retV dX12_next_175 rfl w
            · refine g_iload_n dX12_next_128 rfl ?_
              refine g_bipush dX12_next_129 rfl ?_
              refine g_cmp_eq (tgt := 152) dX12_next_131 rfl o1 (by decide) ?_
              refine ite_imp (fun w => ?_) (fun w => ?_) w
              · refine g_iconst dX12_next_152 ?_
                refine g_goto (tgt := 157) dX12_next_153 rfl ?_
                refine g_putI (J := 10) dX12_next_157 fl_X12_230 sh_97 (al_97 hn) rfl rfl ?_
                refine g_aload_n dX12_next_160 rfl ?_
                refine g_iload_n dX12_next_161 rfl ?_
                refine g_putI (J := 13) dX12_next_162 fl_X12_240 sh_97 (al_97 hn) rfl rfl ?_
                refine g_aload_n dX12_next_165 rfl ?_
                refine g_dup dX12_next_166 rfl ?_
                refine g_getI (J := 4) dX12_next_167 fl_X12_21 sh_97 (al_97 hn) (fun _ _ _ => rfl) rfl ?_
                refine g_iconst dX12_next_170 ?_
                refine g_iadd dX12_next_171 ?_
                refine g_putI (J := 4) dX12_next_172 fl_X12_21 sh_97 (al_97 hn) rfl rfl ?_
                exact g_retV dX12_next_175 rfl w
              · refine g_iload_n dX12_next_134 rfl ?_
                refine g_bipush dX12_next_135 rfl ?_
                refine g_cmp_eq (tgt := 152) dX12_next_137 rfl o1 (by decide) ?_
                refine ite_imp (fun w => ?_) (fun w => ?_) w
                · refine g_iconst dX12_next_152 ?_
                  refine g_goto (tgt := 157) dX12_next_153 rfl ?_
                  refine g_putI (J := 10) dX12_next_157 fl_X12_230 sh_97 (al_97 hn) rfl rfl ?_
                  refine g_aload_n dX12_next_160 rfl ?_
                  refine g_iload_n dX12_next_161 rfl ?_
                  refine g_putI (J := 13) dX12_next_162 fl_X12_240 sh_97 (al_97 hn) rfl rfl ?_
                  refine g_aload_n dX12_next_165 rfl ?_
                  refine g_dup dX12_next_166 rfl ?_
                  refine g_getI (J := 4) dX12_next_167 fl_X12_21 sh_97 (al_97 hn) (fun _ _ _ => rfl) rfl ?_
                  refine g_iconst dX12_next_170 ?_
                  refine g_iadd dX12_next_171 ?_
                  refine g_putI (J := 4) dX12_next_172 fl_X12_21 sh_97 (al_97 hn) rfl rfl ?_
                  exact g_retV dX12_next_175 rfl w
                · refine g_iload_n dX12_next_140 rfl ?_
                  refine g_bipush dX12_next_141 rfl ?_
                  refine g_cmp_lt (tgt := 156) dX12_next_143 rfl o1 (by decide) ?_
                  refine ite_imp (fun w => ?_) (fun w => ?_) w
                  · refine g_iconst dX12_next_156 ?_
                    refine g_putI (J := 10) dX12_next_157 fl_X12_230 sh_97 (al_97 hn) rfl rfl ?_
                    refine g_aload_n dX12_next_160 rfl ?_
                    refine g_iload_n dX12_next_161 rfl ?_
                    refine g_putI (J := 13) dX12_next_162 fl_X12_240 sh_97 (al_97 hn) rfl rfl ?_
                    refine g_aload_n dX12_next_165 rfl ?_
                    refine g_dup dX12_next_166 rfl ?_
                    refine g_getI (J := 4) dX12_next_167 fl_X12_21 sh_97 (al_97 hn) (fun _ _ _ => rfl) rfl ?_
                    refine g_iconst dX12_next_170 ?_
                    refine g_iadd dX12_next_171 ?_
                    refine g_putI (J := 4) dX12_next_172 fl_X12_21 sh_97 (al_97 hn) rfl rfl ?_
                    exact g_retV dX12_next_175 rfl w
                  · refine g_iload_n dX12_next_146 rfl ?_
                    refine g_bipush dX12_next_147 rfl ?_
                    refine g_cmp_gt (tgt := 156) dX12_next_149 rfl o1 (by decide) ?_
                    refine ite_imp (fun w => ?_) (fun w => ?_) w
                    · refine g_iconst dX12_next_156 ?_
                      refine g_putI (J := 10) dX12_next_157 fl_X12_230 sh_97 (al_97 hn) rfl rfl ?_
                      refine g_aload_n dX12_next_160 rfl ?_
                      refine g_iload_n dX12_next_161 rfl ?_
                      refine g_putI (J := 13) dX12_next_162 fl_X12_240 sh_97 (al_97 hn) rfl rfl ?_
                      refine g_aload_n dX12_next_165 rfl ?_
                      refine g_dup dX12_next_166 rfl ?_
                      refine g_getI (J := 4) dX12_next_167 fl_X12_21 sh_97 (al_97 hn) (fun _ _ _ => rfl) rfl ?_
                      refine g_iconst dX12_next_170 ?_
                      refine g_iadd dX12_next_171 ?_
                      refine g_putI (J := 4) dX12_next_172 fl_X12_21 sh_97 (al_97 hn) rfl rfl ?_
                      exact g_retV dX12_next_175 rfl w
                    · refine g_iconst dX12_next_152 ?_
                      refine g_goto (tgt := 157) dX12_next_153 rfl ?_
                      refine g_putI (J := 10) dX12_next_157 fl_X12_230 sh_97 (al_97 hn) rfl rfl ?_
                      refine g_aload_n dX12_next_160 rfl ?_
                      refine g_iload_n dX12_next_161 rfl ?_
                      refine g_putI (J := 13) dX12_next_162 fl_X12_240 sh_97 (al_97 hn) rfl rfl ?_
                      refine g_aload_n dX12_next_165 rfl ?_
                      refine g_dup dX12_next_166 rfl ?_
                      refine g_getI (J := 4) dX12_next_167 fl_X12_21 sh_97 (al_97 hn) (fun _ _ _ => rfl) rfl ?_
                      refine g_iconst dX12_next_170 ?_
                      refine g_iadd dX12_next_171 ?_
                      refine g_putI (J := 4) dX12_next_172 fl_X12_21 sh_97 (al_97 hn) rfl rfl ?_
                      exact g_retV dX12_next_175 rfl w
  · refine g_aload_n dX12_next_89 rfl ?_
    refine g_iconst dX12_next_90 ?_
    refine g_putI (J := 10) dX12_next_91 fl_X12_230 sh_97 (al_97 hn) rfl rfl ?_
    exact g_retV dX12_next_94 rfl w
theorem b_X12_next_193 {l : Launch} {D : Nat} {ζ : ZP} {h : HI} {Q : HI → Prop} {x2 x3 : Int} (hn : 144 ≤ ζ.2.2.2.2) (w : RtI l D mX12_peek (zz ζ) [aP 97] h (fun r1 h1 => RtI l D mX12_isSmall (zz ζ) [aI r1] h1 (fun r2 h2 => (rg r2) ∧ (if ¬ r2 = 0 then (G l (D + 1) 0 0 mX12_next (zz ζ) 213 [aP 97, aU, aI x2, aI x3] [] h2 (qV (zz ζ) Q)) else (RtI l D mX12_peek (zz ζ) [aP 97] h2 (fun r3 h3 => RtI l D mX12_isDigit (zz ζ) [aI r3] h3 (fun r4 h4 => (rg r4) ∧ (if r4 = 0 then ((rg x3) ∧ (if x3 = 0 then (Q (hu h4 97 10 4)) else ((rg x2) ∧ (if x2 = 0 then ((rg (h4 97 12)) ∧ (if (h4 97 12) ≤ 3 then (if x2 = 0 then (Q (hu h4 97 10 2)) else (Q (hu h4 97 10 1))) else (Q (hu h4 97 10 4)))) else ((rg (h4 97 12)) ∧ (if (h4 97 12) ≤ 6 then (if x2 = 0 then (Q (hu h4 97 10 2)) else (Q (hu h4 97 10 1))) else (Q (hu h4 97 10 4)))))))) else (G l (D + 1) 0 0 mX12_next (zz ζ) 213 [aP 97, aU, aI x2, aI x3] [] h4 (qV (zz ζ) Q)))))))))) : G l (D + 1) 0 0 mX12_next (zz ζ) 193 [aP 97, aU, aI x2, aI x3] [] h (qV (zz ζ) Q) := by
  refine g_aload_n dX12_next_193 rfl ?_
  refine g_callVI (n := 0) (As := []) (st := []) dX12_next_194 ml_X12_220 sh_97 rfl (al_97 hn) rfl rfl (Nat.le_of_ble_eq_true rfl) (RtI.mono w (fun r1 h1 w => ?_))
  refine g_callSI (n := 1) (As := [aI r1]) (st := []) dX12_next_197 ml_X12_233 rfl rfl (Nat.le_of_ble_eq_true rfl) rfl (RtI.mono w (fun r2 h2 w => ?_))
  obtain ⟨o1, w⟩ := w
  refine g_if_ne (tgt := 213) dX12_next_200 rfl o1 ?_
  refine ite_imp (fun w => ?_) (fun w => ?_) w
  · exact g_sub (ls' := [aP 97, aU, aI x2, aI x3]) ⟨Or.inr rfl, Or.inl rfl, Or.inr rfl, Or.inr rfl, trivial⟩ w
  · refine g_aload_n dX12_next_203 rfl ?_
    refine g_callVI (n := 0) (As := []) (st := []) dX12_next_204 ml_X12_220 sh_97 rfl (al_97 hn) rfl rfl (Nat.le_of_ble_eq_true rfl) (RtI.mono w (fun r3 h3 w => ?_))
    refine g_callSI (n := 1) (As := [aI r3]) (st := []) dX12_next_207 ml_X12_237 rfl rfl (Nat.le_of_ble_eq_true rfl) rfl (RtI.mono w (fun r4 h4 w => ?_))
    obtain ⟨o2, w⟩ := w
    refine g_if_eq (tgt := 310) dX12_next_210 rfl o2 ?_
    refine ite_imp (fun w => ?_) (fun w => ?_) w
    · refine g_aload_n dX12_next_310 rfl ?_
      refine g_iload_n dX12_next_311 rfl ?_
      obtain ⟨o3, w⟩ := w
      refine g_if_eq (tgt := 332) dX12_next_312 rfl o3 ?_
      refine ite_imp (fun w => ?_) (fun w => ?_) w
      · refine g_iconst dX12_next_332 ?_
        refine g_goto (tgt := 345) dX12_next_333 rfl ?_
        refine g_putI (J := 10) dX12_next_345 fl_X12_230 sh_97 (al_97 hn) rfl rfl ?_
        exact g_retV dX12_next_348 rfl w
      · refine g_aload_n dX12_next_315 rfl ?_
        refine g_getI (J := 12) dX12_next_316 fl_X12_227 sh_97 (al_97 hn) (fun _ _ _ => rfl) rfl ?_
        refine g_iload_n dX12_next_319 rfl ?_
        obtain ⟨o4, w⟩ := w
        refine g_if_eq (tgt := 328) dX12_next_320 rfl o4 ?_
        refine ite_imp (fun w => ?_) (fun w => ?_) w
        · refine g_iconst dX12_next_328 ?_
          obtain ⟨o5, w⟩ := w
          refine g_cmp_le (tgt := 336) dX12_next_329 rfl o5 (by decide) ?_
          refine ite_imp (fun w => ?_) (fun w => ?_) w
          · refine g_iload_n dX12_next_336 rfl ?_
            refine g_if_eq (tgt := 344) dX12_next_337 rfl o4 ?_
            refine ite_imp (fun w => ?_) (fun w => ?_) w
            · refine g_iconst dX12_next_344 ?_
              refine g_putI (J := 10) dX12_next_345 fl_X12_230 sh_97 (al_97 hn) rfl rfl ?_
              exact g_retV dX12_next_348 rfl w
            · refine g_iconst dX12_next_340 ?_
              refine g_goto (tgt := 345) dX12_next_341 rfl ?_
              refine g_putI (J := 10) dX12_next_345 fl_X12_230 sh_97 (al_97 hn) rfl rfl ?_
              exact g_retV dX12_next_348 rfl w
          · refine g_iconst dX12_next_332 ?_
            refine g_goto (tgt := 345) dX12_next_333 rfl ?_
            refine g_putI (J := 10) dX12_next_345 fl_X12_230 sh_97 (al_97 hn) rfl rfl ?_
            exact g_retV dX12_next_348 rfl w
        · refine g_bipush dX12_next_323 rfl ?_
          refine g_goto (tgt := 329) dX12_next_325 rfl ?_
          obtain ⟨o6, w⟩ := w
          refine g_cmp_le (tgt := 336) dX12_next_329 rfl o6 (by decide) ?_
          refine ite_imp (fun w => ?_) (fun w => ?_) w
          · refine g_iload_n dX12_next_336 rfl ?_
            refine g_if_eq (tgt := 344) dX12_next_337 rfl o4 ?_
            refine ite_imp (fun w => ?_) (fun w => ?_) w
            · refine g_iconst dX12_next_344 ?_
              refine g_putI (J := 10) dX12_next_345 fl_X12_230 sh_97 (al_97 hn) rfl rfl ?_
              exact g_retV dX12_next_348 rfl w
            · refine g_iconst dX12_next_340 ?_
              refine g_goto (tgt := 345) dX12_next_341 rfl ?_
              refine g_putI (J := 10) dX12_next_345 fl_X12_230 sh_97 (al_97 hn) rfl rfl ?_
              exact g_retV dX12_next_348 rfl w
          · refine g_iconst dX12_next_332 ?_
            refine g_goto (tgt := 345) dX12_next_333 rfl ?_
            refine g_putI (J := 10) dX12_next_345 fl_X12_230 sh_97 (al_97 hn) rfl rfl ?_
            exact g_retV dX12_next_348 rfl w
    · exact g_sub (ls' := [aP 97, aU, aI x2, aI x3]) ⟨Or.inr rfl, Or.inl rfl, Or.inr rfl, Or.inr rfl, trivial⟩ w
theorem b_X12_next_213 {l : Launch} {D : Nat} {ζ : ZP} {h : HI} {Q : HI → Prop} {x2 x3 : Int} (hn : 144 ≤ ζ.2.2.2.2) (w : (rg x3) ∧ (if x3 = 0 then ((rg (h 97 12)) ∧ (if 6 ≤ (h 97 12) then (G l (D + 1) 0 0 mX12_next (zz ζ) 260 [aP 97, aU, aI x2, aI 0] [] h (qV (zz ζ) Q)) else (RtI l D mX12_peek (zz ζ) [aP 97] h (fun r1 h1 => (rg r1) ∧ G l (D + 1) 0 0 mX12_next (zz ζ) 260 [aP 97, aU, aI x2, aI 0] [] (hu h1 97 16 (lbor (lbshl (h 97 16) 8) r1)) (qV (zz ζ) Q))))) else (RtI l D mX12_peek (zz ζ) [aP 97] h (fun r2 h2 => RtI l D mX12_isSmall (zz ζ) [aI r2] h2 (fun r3 h3 => (rg r3) ∧ (rg x2) ∧ (if ¬ r3 = x2 then ((rg (h3 97 12)) ∧ (if 6 ≤ (h3 97 12) then (G l (D + 1) 0 0 mX12_next (zz ζ) 260 [aP 97, aU, aI x2, aI 0] [] h3 (qV (zz ζ) Q)) else (RtI l D mX12_peek (zz ζ) [aP 97] h3 (fun r4 h4 => (rg r4) ∧ G l (D + 1) 0 0 mX12_next (zz ζ) 260 [aP 97, aU, aI x2, aI 0] [] (hu h4 97 16 (lbor (lbshl (h3 97 16) 8) r4)) (qV (zz ζ) Q))))) else ((rg (h3 97 12)) ∧ (if 6 ≤ (h3 97 12) then (G l (D + 1) 0 0 mX12_next (zz ζ) 260 [aP 97, aU, aI x2, aI 1] [] h3 (qV (zz ζ) Q)) else (RtI l D mX12_peek (zz ζ) [aP 97] h3 (fun r5 h5 => (rg r5) ∧ G l (D + 1) 0 0 mX12_next (zz ζ) 260 [aP 97, aU, aI x2, aI 1] [] (hu h5 97 16 (lbor (lbshl (h3 97 16) 8) r5)) (qV (zz ζ) Q))))))))))) : G l (D + 1) 0 0 mX12_next (zz ζ) 213 [aP 97, aU, aI x2, aI x3] [] h (qV (zz ζ) Q) := by
  refine g_iload_n dX12_next_213 rfl ?_
  obtain ⟨o1, w⟩ := w
  refine g_if_eq (tgt := 232) dX12_next_214 rfl o1 ?_
  refine ite_imp (fun w => ?_) (fun w => ?_) w
  · refine g_iconst dX12_next_232 ?_
    refine g_istore_n (ls' := [aP 97, aU, aI x2, aI 0]) dX12_next_233 (Nat.le_of_ble_eq_true rfl) rfl rfl ?_
    refine g_aload_n dX12_next_234 rfl ?_
    refine g_getI (J := 12) dX12_next_235 fl_X12_227 sh_97 (al_97 hn) (fun _ _ _ => rfl) rfl ?_
    refine g_bipush dX12_next_238 rfl ?_
    obtain ⟨o2, w⟩ := w
    refine g_cmp_ge (tgt := 260) dX12_next_240 rfl o2 (by decide) ?_
    refine ite_imp (fun w => ?_) (fun w => ?_) w
    · exact g_sub (ls' := [aP 97, aU, aI x2, aI 0]) ⟨Or.inr rfl, Or.inl rfl, Or.inr rfl, Or.inr rfl, trivial⟩ w
    · refine g_aload_n dX12_next_243 rfl ?_
      refine g_aload_n dX12_next_244 rfl ?_
      refine g_getJ (J := 16) dX12_next_245 fl_X12_243 sh_97 (al_97 hn) (fun _ _ _ => rfl) rfl ?_
      refine g_bipush dX12_next_248 rfl ?_
      refine g_lshl dX12_next_250 ?_
      refine g_aload_n dX12_next_251 rfl ?_
      refine g_callVI (n := 0) (As := []) (st := [aL (lbshl (h 97 16) 8), aP 97]) dX12_next_252 ml_X12_220 sh_97 rfl (al_97 hn) rfl rfl (Nat.le_of_ble_eq_true rfl) (RtI.mono w (fun r1 h1 w => ?_))
      obtain ⟨o3, w⟩ := w
      refine g_i2l dX12_next_255 o3 ?_
      refine g_lor dX12_next_256 ?_
      refine g_putJ (J := 16) dX12_next_257 fl_X12_243 sh_97 (al_97 hn) rfl rfl ?_
      exact g_sub (ls' := [aP 97, aU, aI x2, aI 0]) ⟨Or.inr rfl, Or.inl rfl, Or.inr rfl, Or.inr rfl, trivial⟩ w
  · refine g_aload_n dX12_next_217 rfl ?_
    refine g_callVI (n := 0) (As := []) (st := []) dX12_next_218 ml_X12_220 sh_97 rfl (al_97 hn) rfl rfl (Nat.le_of_ble_eq_true rfl) (RtI.mono w (fun r2 h2 w => ?_))
    refine g_callSI (n := 1) (As := [aI r2]) (st := []) dX12_next_221 ml_X12_233 rfl rfl (Nat.le_of_ble_eq_true rfl) rfl (RtI.mono w (fun r3 h3 w => ?_))
    refine g_iload_n dX12_next_224 rfl ?_
    obtain ⟨o4, w⟩ := w
    obtain ⟨o5, w⟩ := w
    refine g_cmp_ne (tgt := 232) dX12_next_225 rfl o4 o5 ?_
    refine ite_imp (fun w => ?_) (fun w => ?_) w
    · refine g_iconst dX12_next_232 ?_
      refine g_istore_n (ls' := [aP 97, aU, aI x2, aI 0]) dX12_next_233 (Nat.le_of_ble_eq_true rfl) rfl rfl ?_
      refine g_aload_n dX12_next_234 rfl ?_
      refine g_getI (J := 12) dX12_next_235 fl_X12_227 sh_97 (al_97 hn) (fun _ _ _ => rfl) rfl ?_
      refine g_bipush dX12_next_238 rfl ?_
      obtain ⟨o6, w⟩ := w
      refine g_cmp_ge (tgt := 260) dX12_next_240 rfl o6 (by decide) ?_
      refine ite_imp (fun w => ?_) (fun w => ?_) w
      · exact g_sub (ls' := [aP 97, aU, aI x2, aI 0]) ⟨Or.inr rfl, Or.inl rfl, Or.inr rfl, Or.inr rfl, trivial⟩ w
      · refine g_aload_n dX12_next_243 rfl ?_
        refine g_aload_n dX12_next_244 rfl ?_
        refine g_getJ (J := 16) dX12_next_245 fl_X12_243 sh_97 (al_97 hn) (fun _ _ _ => rfl) rfl ?_
        refine g_bipush dX12_next_248 rfl ?_
        refine g_lshl dX12_next_250 ?_
        refine g_aload_n dX12_next_251 rfl ?_
        refine g_callVI (n := 0) (As := []) (st := [aL (lbshl (h3 97 16) 8), aP 97]) dX12_next_252 ml_X12_220 sh_97 rfl (al_97 hn) rfl rfl (Nat.le_of_ble_eq_true rfl) (RtI.mono w (fun r4 h4 w => ?_))
        obtain ⟨o7, w⟩ := w
        refine g_i2l dX12_next_255 o7 ?_
        refine g_lor dX12_next_256 ?_
        refine g_putJ (J := 16) dX12_next_257 fl_X12_243 sh_97 (al_97 hn) rfl rfl ?_
        exact g_sub (ls' := [aP 97, aU, aI x2, aI 0]) ⟨Or.inr rfl, Or.inl rfl, Or.inr rfl, Or.inr rfl, trivial⟩ w
    · refine g_iconst dX12_next_228 ?_
      refine g_goto (tgt := 233) dX12_next_229 rfl ?_
      refine g_istore_n (ls' := [aP 97, aU, aI x2, aI 1]) dX12_next_233 (Nat.le_of_ble_eq_true rfl) rfl rfl ?_
      refine g_aload_n dX12_next_234 rfl ?_
      refine g_getI (J := 12) dX12_next_235 fl_X12_227 sh_97 (al_97 hn) (fun _ _ _ => rfl) rfl ?_
      refine g_bipush dX12_next_238 rfl ?_
      obtain ⟨o8, w⟩ := w
      refine g_cmp_ge (tgt := 260) dX12_next_240 rfl o8 (by decide) ?_
      refine ite_imp (fun w => ?_) (fun w => ?_) w
      · exact g_sub (ls' := [aP 97, aU, aI x2, aI 1]) ⟨Or.inr rfl, Or.inl rfl, Or.inr rfl, Or.inr rfl, trivial⟩ w
      · refine g_aload_n dX12_next_243 rfl ?_
        refine g_aload_n dX12_next_244 rfl ?_
        refine g_getJ (J := 16) dX12_next_245 fl_X12_243 sh_97 (al_97 hn) (fun _ _ _ => rfl) rfl ?_
        refine g_bipush dX12_next_248 rfl ?_
        refine g_lshl dX12_next_250 ?_
        refine g_aload_n dX12_next_251 rfl ?_
        refine g_callVI (n := 0) (As := []) (st := [aL (lbshl (h3 97 16) 8), aP 97]) dX12_next_252 ml_X12_220 sh_97 rfl (al_97 hn) rfl rfl (Nat.le_of_ble_eq_true rfl) (RtI.mono w (fun r5 h5 w => ?_))
        obtain ⟨o9, w⟩ := w
        refine g_i2l dX12_next_255 o9 ?_
        refine g_lor dX12_next_256 ?_
        refine g_putJ (J := 16) dX12_next_257 fl_X12_243 sh_97 (al_97 hn) rfl rfl ?_
        exact g_sub (ls' := [aP 97, aU, aI x2, aI 1]) ⟨Or.inr rfl, Or.inl rfl, Or.inr rfl, Or.inr rfl, trivial⟩ w
theorem b_X12_next_260 {l : Launch} {D : Nat} {ζ : ZP} {h : HI} {Q : HI → Prop} {x2 x3 : Int} (hn : 144 ≤ ζ.2.2.2.2) (w : (rg (h 97 12)) ∧ (if 3 ≤ (h 97 12) then (G l (D + 1) 0 0 mX12_next (zz ζ) 193 [aP 97, aU, aI x2, aI x3] [] (hu (hu h 97 12 ((h 97 12) + 1)) 97 4 ((h 97 4) + 1)) (qV (zz ζ) Q)) else (RtI l D mX12_peek (zz ζ) [aP 97] h (fun r1 h1 => G l (D + 1) 0 0 mX12_next (zz ζ) 193 [aP 97, aU, aI x2, aI x3] [] (hu (hu (hu h1 97 13 (((10 * (h 97 13)) + r1) - 48)) 97 12 ((h1 97 12) + 1)) 97 4 ((h1 97 4) + 1)) (qV (zz ζ) Q))))) : G l (D + 1) 0 0 mX12_next (zz ζ) 260 [aP 97, aU, aI x2, aI x3] [] h (qV (zz ζ) Q) := by
  refine g_aload_n dX12_next_260 rfl ?_
  refine g_getI (J := 12) dX12_next_261 fl_X12_227 sh_97 (al_97 hn) (fun _ _ _ => rfl) rfl ?_
  refine g_iconst dX12_next_264 ?_
  obtain ⟨o1, w⟩ := w
  refine g_cmp_ge (tgt := 287) dX12_next_265 rfl o1 (by decide) ?_
  refine ite_imp (fun w => ?_) (fun w => ?_) w
  · refine g_aload_n dX12_next_287 rfl ?_
    refine g_dup dX12_next_288 rfl ?_
    refine g_getI (J := 12) dX12_next_289 fl_X12_227 sh_97 (al_97 hn) (fun _ _ _ => rfl) rfl ?_
    refine g_iconst dX12_next_292 ?_
    refine g_iadd dX12_next_293 ?_
    refine g_putI (J := 12) dX12_next_294 fl_X12_227 sh_97 (al_97 hn) rfl rfl ?_
    refine g_aload_n dX12_next_297 rfl ?_
    refine g_dup dX12_next_298 rfl ?_
    refine g_getI (J := 4) dX12_next_299 fl_X12_21 sh_97 (al_97 hn) (fun _ _ _ => rfl) rfl ?_
    refine g_iconst dX12_next_302 ?_
    refine g_iadd dX12_next_303 ?_
    refine g_putI (J := 4) dX12_next_304 fl_X12_21 sh_97 (al_97 hn) rfl rfl ?_
    refine g_goto (tgt := 193) dX12_next_307 rfl ?_
    exact g_sub (ls' := [aP 97, aU, aI x2, aI x3]) ⟨Or.inr rfl, Or.inl rfl, Or.inr rfl, Or.inr rfl, trivial⟩ w
  · refine g_aload_n dX12_next_268 rfl ?_
    refine g_bipush dX12_next_269 rfl ?_
    refine g_aload_n dX12_next_271 rfl ?_
    refine g_getI (J := 13) dX12_next_272 fl_X12_240 sh_97 (al_97 hn) (fun _ _ _ => rfl) rfl ?_
    refine g_imul dX12_next_275 ?_
    refine g_aload_n dX12_next_276 rfl ?_
    refine g_callVI (n := 0) (As := []) (st := [aI (10 * (h 97 13)), aP 97]) dX12_next_277 ml_X12_220 sh_97 rfl (al_97 hn) rfl rfl (Nat.le_of_ble_eq_true rfl) (RtI.mono w (fun r1 h1 w => ?_))
    refine g_iadd dX12_next_280 ?_
    refine g_bipush dX12_next_281 rfl ?_
    refine g_isub dX12_next_283 ?_
    refine g_putI (J := 13) dX12_next_284 fl_X12_240 sh_97 (al_97 hn) rfl rfl ?_
    refine g_aload_n dX12_next_287 rfl ?_
    refine g_dup dX12_next_288 rfl ?_
    refine g_getI (J := 12) dX12_next_289 fl_X12_227 sh_97 (al_97 hn) (fun _ _ _ => rfl) rfl ?_
    refine g_iconst dX12_next_292 ?_
    refine g_iadd dX12_next_293 ?_
    refine g_putI (J := 12) dX12_next_294 fl_X12_227 sh_97 (al_97 hn) rfl rfl ?_
    refine g_aload_n dX12_next_297 rfl ?_
    refine g_dup dX12_next_298 rfl ?_
    refine g_getI (J := 4) dX12_next_299 fl_X12_21 sh_97 (al_97 hn) (fun _ _ _ => rfl) rfl ?_
    refine g_iconst dX12_next_302 ?_
    refine g_iadd dX12_next_303 ?_
    refine g_putI (J := 4) dX12_next_304 fl_X12_21 sh_97 (al_97 hn) rfl rfl ?_
    refine g_goto (tgt := 193) dX12_next_307 rfl ?_
    exact g_sub (ls' := [aP 97, aU, aI x2, aI x3]) ⟨Or.inr rfl, Or.inl rfl, Or.inr rfl, Or.inr rfl, trivial⟩ w
theorem e_X12_next {l : Launch} {D : Nat} {ζ : ZP} {h : HI} {Q : HI → Prop} (hn : 144 ≤ ζ.2.2.2.2) (w : G l (D + 1) 0 0 mX12_next (zz ζ) 0 [aP 97, aU, aU, aU] [] h (qV (zz ζ) Q)) : RtV l (D + 1) mX12_next (zz ζ) [aP 97] h Q := by
  refine RtV.of 3 pn_X12 [aP 97, aU, aU, aU] rfl rfl ?_
  exact g_sub (ls' := [aP 97, aU, aU, aU]) ⟨Or.inr rfl, Or.inl rfl, Or.inl rfl, Or.inl rfl, trivial⟩ w
theorem e_X12_bad {l : Launch} {D : Nat} {ζ : ZP} {h : HI} {Q : Int → HI → Prop} {x1 : Int} (hn : 144 ≤ ζ.2.2.2.2) (w : Q 0 (hu (hu h 97 14 x1) 97 15 (h 97 11))) : RtI l (D + 1) mX12_bad (zz ζ) [aP 97, aI x1] h Q := by
  refine RtI.of 0 pn_X12 [aP 97, aI x1] rfl rfl ?_
  refine g_aload_n dX12_bad_0 rfl ?_
  refine g_iload_n dX12_bad_1 rfl ?_
  refine g_putI (J := 14) dX12_bad_2 fl_X12_247 sh_97 (al_97 hn) rfl rfl ?_
  refine g_aload_n dX12_bad_5 rfl ?_
  refine g_aload_n dX12_bad_6 rfl ?_
  refine g_getI (J := 11) dX12_bad_7 fl_X12_224 sh_97 (al_97 hn) (fun _ _ _ => rfl) rfl ?_
  refine g_putI (J := 15) dX12_bad_10 fl_X12_250 sh_97 (al_97 hn) rfl rfl ?_
  refine g_iconst dX12_bad_13 ?_
  exact g_retZ dX12_bad_14 rfl (Or.inl rfl) w
theorem e_X12_isWord {l : Launch} {D : Nat} {ζ : ZP} {h : HI} {Q : Int → HI → Prop} {x1 : Int} (hn : 144 ≤ ζ.2.2.2.2) (w : (rg (h 97 10)) ∧ (if ¬ (h 97 10) = 1 then (Q 0 h) else ((rl (h 97 16)) ∧ (rl x1) ∧ (if ¬ (h 97 16) = x1 then (Q 0 h) else (Q 1 h))))) : RtI l (D + 1) mX12_isWord (zz ζ) [aP 97, aL x1] h Q := by
  refine RtI.of 0 pn_X12 [aP 97, aL x1, aU] rfl rfl ?_
  refine g_aload_n dX12_isWord_0 rfl ?_
  refine g_getI (J := 10) dX12_isWord_1 fl_X12_230 sh_97 (al_97 hn) (fun _ _ _ => rfl) rfl ?_
  refine g_iconst dX12_isWord_4 ?_
  obtain ⟨o1, w⟩ := w
  refine g_cmp_ne (tgt := 21) dX12_isWord_5 rfl o1 (by decide) ?_
  refine ite_imp (fun w => ?_) (fun w => ?_) w
  · refine g_iconst dX12_isWord_21 ?_
    exact g_retZ dX12_isWord_22 rfl (Or.inl rfl) w
  · refine g_aload_n dX12_isWord_8 rfl ?_
    refine g_getJ (J := 16) dX12_isWord_9 fl_X12_243 sh_97 (al_97 hn) (fun _ _ _ => rfl) rfl ?_
    refine g_lload_n dX12_isWord_12 rfl ?_
    obtain ⟨o2, w⟩ := w
    obtain ⟨o3, w⟩ := w
    refine g_lcmp dX12_isWord_13 o2 o3 ?_
    refine g_if_ne (tgt := 21) dX12_isWord_14 rfl (rg_lcm3 _ _) ?_
    refine ite_imp2 lcm3_ne (fun w => ?_) (fun w => ?_) w
    · refine g_iconst dX12_isWord_21 ?_
      exact g_retZ dX12_isWord_22 rfl (Or.inl rfl) w
    · refine g_iconst dX12_isWord_17 ?_
      refine g_goto (tgt := 22) dX12_isWord_18 rfl ?_
      exact g_retZ dX12_isWord_22 rfl (Or.inr rfl) w
theorem e_X12_isSign {l : Launch} {D : Nat} {ζ : ZP} {h : HI} {Q : Int → HI → Prop} {x1 : Int} (hn : 144 ≤ ζ.2.2.2.2) (w : (rg (h 97 10)) ∧ (if ¬ (h 97 10) = 3 then (Q 0 h) else ((rg (h 97 13)) ∧ (rg x1) ∧ (if ¬ (h 97 13) = x1 then (Q 0 h) else (Q 1 h))))) : RtI l (D + 1) mX12_isSign (zz ζ) [aP 97, aI x1] h Q := by
  refine RtI.of 0 pn_X12 [aP 97, aI x1] rfl rfl ?_
  refine g_aload_n dX12_isSign_0 rfl ?_
  refine g_getI (J := 10) dX12_isSign_1 fl_X12_230 sh_97 (al_97 hn) (fun _ _ _ => rfl) rfl ?_
  refine g_iconst dX12_isSign_4 ?_
  obtain ⟨o1, w⟩ := w
  refine g_cmp_ne (tgt := 20) dX12_isSign_5 rfl o1 (by decide) ?_
  refine ite_imp (fun w => ?_) (fun w => ?_) w
  · refine g_iconst dX12_isSign_20 ?_
    exact g_retZ dX12_isSign_21 rfl (Or.inl rfl) w
  · refine g_aload_n dX12_isSign_8 rfl ?_
    refine g_getI (J := 13) dX12_isSign_9 fl_X12_240 sh_97 (al_97 hn) (fun _ _ _ => rfl) rfl ?_
    refine g_iload_n dX12_isSign_12 rfl ?_
    obtain ⟨o2, w⟩ := w
    obtain ⟨o3, w⟩ := w
    refine g_cmp_ne (tgt := 20) dX12_isSign_13 rfl o2 o3 ?_
    refine ite_imp (fun w => ?_) (fun w => ?_) w
    · refine g_iconst dX12_isSign_20 ?_
      exact g_retZ dX12_isSign_21 rfl (Or.inl rfl) w
    · refine g_iconst dX12_isSign_16 ?_
      refine g_goto (tgt := 21) dX12_isSign_17 rfl ?_
      exact g_retZ dX12_isSign_21 rfl (Or.inr rfl) w
theorem e_X12_sign {l : Launch} {D : Nat} {ζ : ZP} {h : HI} {Q : Int → HI → Prop} {x1 : Int} (hn : 144 ≤ ζ.2.2.2.2) (w : RtI l D mX12_isSign (zz ζ) [aP 97, aI x1] h (fun r1 h1 => (rg r1) ∧ (if ¬ r1 = 0 then (RtV l D mX12_next (zz ζ) [aP 97] h1 (fun h2 => Q 1 h2)) else (RtI l D mX12_bad (zz ζ) [aP 97, aI 1] h1 (fun r3 h3 => (r3 = 0 ∨ r3 = 1) ∧ Q r3 h3))))) : RtI l (D + 1) mX12_sign (zz ζ) [aP 97, aI x1] h Q := by
  refine RtI.of 0 pn_X12 [aP 97, aI x1] rfl rfl ?_
  refine g_aload_n dX12_sign_0 rfl ?_
  refine g_iload_n dX12_sign_1 rfl ?_
  refine g_callVI (n := 1) (As := [aI x1]) (st := []) dX12_sign_2 ml_X12_253 sh_97 rfl (al_97 hn) rfl rfl (Nat.le_of_ble_eq_true rfl) (RtI.mono w (fun r1 h1 w => ?_))
  obtain ⟨o1, w⟩ := w
  refine g_if_ne (tgt := 14) dX12_sign_5 rfl o1 ?_
  refine ite_imp (fun w => ?_) (fun w => ?_) w
  · refine g_aload_n dX12_sign_14 rfl ?_
    refine g_callVV (n := 0) (As := []) (st := []) dX12_sign_15 ml_X12_259 sh_97 rfl (al_97 hn) rfl rfl (Nat.le_of_ble_eq_true rfl) (RtV.mono w (fun h2 w => ?_))
    refine g_iconst dX12_sign_18 ?_
    exact g_retZ dX12_sign_19 rfl (Or.inr rfl) w
  · refine g_aload_n dX12_sign_8 rfl ?_
    refine g_iconst dX12_sign_9 ?_
    refine g_callVI (n := 1) (As := [aI 1]) (st := []) dX12_sign_10 ml_X12_256 sh_97 rfl (al_97 hn) rfl rfl (Nat.le_of_ble_eq_true rfl) (RtI.mono w (fun r3 h3 w => ?_))
    obtain ⟨o2, w⟩ := w
    exact g_retZ dX12_sign_13 rfl o2 w
theorem b_X12_isName_16 {l : Launch} {D : Nat} {ζ : ZP} {h : HI} {Q : Int → HI → Prop} {x1 x2 : Int} (hn : 144 ≤ ζ.2.2.2.2) (w : (rg x2) ∧ (if 23 ≤ x2 then ((x1 = 0 ∨ x1 = 1) ∧ Q x1 h) else ((rg x1) ∧ (if x1 = 0 then (G l (D + 1) 0 0 mX12_isName (zz ζ) 16 [aP 97, aI 0, aI (x2 + 1)] [] h (qI (zz ζ) Q)) else ((0 ≤ x2 ∧ x2 < 23) ∧ (rl (h 97 16)) ∧ (rl (h 102 x2)) ∧ (if (h 97 16) = (h 102 x2) then (G l (D + 1) 0 0 mX12_isName (zz ζ) 16 [aP 97, aI 0, aI (x2 + 1)] [] h (qI (zz ζ) Q)) else (G l (D + 1) 0 0 mX12_isName (zz ζ) 16 [aP 97, aI 1, aI (x2 + 1)] [] h (qI (zz ζ) Q)))))))) : G l (D + 1) 0 0 mX12_isName (zz ζ) 16 [aP 97, aI x1, aI x2] [] h (qI (zz ζ) Q) := by
  refine g_iload_n dX12_isName_16 rfl ?_
  refine g_bipush dX12_isName_17 rfl ?_
  obtain ⟨o1, w⟩ := w
  refine g_cmp_ge (tgt := 52) dX12_isName_19 rfl o1 (by decide) ?_
  refine ite_imp (fun w => ?_) (fun w => ?_) w
  · refine g_iload_n dX12_isName_52 rfl ?_
    obtain ⟨o2, w⟩ := w
    exact g_retZ dX12_isName_53 rfl o2 w
  · refine g_iload_n dX12_isName_22 rfl ?_
    obtain ⟨o3, w⟩ := w
    refine g_if_eq (tgt := 44) dX12_isName_23 rfl o3 ?_
    refine ite_imp (fun w => ?_) (fun w => ?_) w
    · refine g_iconst dX12_isName_44 ?_
      refine g_istore_n (ls' := [aP 97, aI 0, aI x2]) dX12_isName_45 (Nat.le_of_ble_eq_true rfl) rfl rfl ?_
      refine g_iinc (ls' := [aP 97, aI 0, aI (x2 + 1)]) dX12_isName_46 rfl (Nat.le_of_ble_eq_true rfl) rfl rfl ?_
      refine g_goto (tgt := 16) dX12_isName_49 rfl ?_
      exact g_sub (ls' := [aP 97, aI 0, aI (x2 + 1)]) ⟨Or.inr rfl, Or.inr rfl, Or.inr rfl, trivial⟩ w
    · refine g_aload_n dX12_isName_26 rfl ?_
      refine g_getJ (J := 16) dX12_isName_27 fl_X12_243 sh_97 (al_97 hn) (fun _ _ _ => rfl) rfl ?_
      refine g_aload_n dX12_isName_30 rfl ?_
      refine g_getR dX12_isName_31 fl_X12_44 sh_97 (al_97 hn) (fun _ _ _ => rfl) rf_97_9 ?_
      refine g_iload_n dX12_isName_34 rfl ?_
      obtain ⟨o4, w⟩ := w
      refine g_lald dX12_isName_35 sh_102 (al_102 hn) (Nat.le_of_ble_eq_true rfl) o4 ?_
      obtain ⟨o5, w⟩ := w
      obtain ⟨o6, w⟩ := w
      refine g_lcmp dX12_isName_36 o5 o6 ?_
      refine g_if_eq (tgt := 44) dX12_isName_37 rfl (rg_lcm3 _ _) ?_
      refine ite_imp2 lcm3_eq (fun w => ?_) (fun w => ?_) w
      · refine g_iconst dX12_isName_44 ?_
        refine g_istore_n (ls' := [aP 97, aI 0, aI x2]) dX12_isName_45 (Nat.le_of_ble_eq_true rfl) rfl rfl ?_
        refine g_iinc (ls' := [aP 97, aI 0, aI (x2 + 1)]) dX12_isName_46 rfl (Nat.le_of_ble_eq_true rfl) rfl rfl ?_
        refine g_goto (tgt := 16) dX12_isName_49 rfl ?_
        exact g_sub (ls' := [aP 97, aI 0, aI (x2 + 1)]) ⟨Or.inr rfl, Or.inr rfl, Or.inr rfl, trivial⟩ w
      · refine g_iconst dX12_isName_40 ?_
        refine g_goto (tgt := 45) dX12_isName_41 rfl ?_
        refine g_istore_n (ls' := [aP 97, aI 1, aI x2]) dX12_isName_45 (Nat.le_of_ble_eq_true rfl) rfl rfl ?_
        refine g_iinc (ls' := [aP 97, aI 1, aI (x2 + 1)]) dX12_isName_46 rfl (Nat.le_of_ble_eq_true rfl) rfl rfl ?_
        refine g_goto (tgt := 16) dX12_isName_49 rfl ?_
        exact g_sub (ls' := [aP 97, aI 1, aI (x2 + 1)]) ⟨Or.inr rfl, Or.inr rfl, Or.inr rfl, trivial⟩ w
theorem e_X12_isName {l : Launch} {D : Nat} {ζ : ZP} {h : HI} {Q : Int → HI → Prop} (hn : 144 ≤ ζ.2.2.2.2) (w : (rg (h 97 10)) ∧ (if ¬ (h 97 10) = 1 then (G l (D + 1) 0 0 mX12_isName (zz ζ) 16 [aP 97, aI 0, aI 0] [] h (qI (zz ζ) Q)) else (G l (D + 1) 0 0 mX12_isName (zz ζ) 16 [aP 97, aI 1, aI 0] [] h (qI (zz ζ) Q)))) : RtI l (D + 1) mX12_isName (zz ζ) [aP 97] h Q := by
  refine RtI.of 2 pn_X12 [aP 97, aU, aU] rfl rfl ?_
  refine g_aload_n dX12_isName_0 rfl ?_
  refine g_getI (J := 10) dX12_isName_1 fl_X12_230 sh_97 (al_97 hn) (fun _ _ _ => rfl) rfl ?_
  refine g_iconst dX12_isName_4 ?_
  obtain ⟨o1, w⟩ := w
  refine g_cmp_ne (tgt := 12) dX12_isName_5 rfl o1 (by decide) ?_
  refine ite_imp (fun w => ?_) (fun w => ?_) w
  · refine g_iconst dX12_isName_12 ?_
    refine g_istore_n (ls' := [aP 97, aI 0, aU]) dX12_isName_13 (Nat.le_of_ble_eq_true rfl) rfl rfl ?_
    refine g_iconst dX12_isName_14 ?_
    refine g_istore_n (ls' := [aP 97, aI 0, aI 0]) dX12_isName_15 (Nat.le_of_ble_eq_true rfl) rfl rfl ?_
    exact g_sub (ls' := [aP 97, aI 0, aI 0]) ⟨Or.inr rfl, Or.inr rfl, Or.inr rfl, trivial⟩ w
  · refine g_iconst dX12_isName_8 ?_
    refine g_goto (tgt := 13) dX12_isName_9 rfl ?_
    refine g_istore_n (ls' := [aP 97, aI 1, aU]) dX12_isName_13 (Nat.le_of_ble_eq_true rfl) rfl rfl ?_
    refine g_iconst dX12_isName_14 ?_
    refine g_istore_n (ls' := [aP 97, aI 1, aI 0]) dX12_isName_15 (Nat.le_of_ble_eq_true rfl) rfl rfl ?_
    exact g_sub (ls' := [aP 97, aI 1, aI 0]) ⟨Or.inr rfl, Or.inr rfl, Or.inr rfl, trivial⟩ w
theorem e_X12_takes {l : Launch} {D : Nat} {ζ : ZP} {h : HI} {Q : Int → HI → Prop} {x1 x2 : Int} (hn : 144 ≤ ζ.2.2.2.2) (w : (rg (h 97 10)) ∧ (if (h 97 10) = 2 then (RtI l D mX12_isIn (zz ζ) [aI (h 97 13), aI x1, aI x2] h (fun r1 h1 => (rg r1) ∧ (if ¬ r1 = 0 then (RtV l D mX12_next (zz ζ) [aP 97] (hu h1 97 17 (h1 97 13)) (fun h2 => Q 1 h2)) else (RtI l D mX12_bad (zz ζ) [aP 97, aI 2] h1 (fun r3 h3 => (r3 = 0 ∨ r3 = 1) ∧ Q r3 h3))))) else (RtI l D mX12_bad (zz ζ) [aP 97, aI 1] h (fun r4 h4 => (r4 = 0 ∨ r4 = 1) ∧ Q r4 h4)))) : RtI l (D + 1) mX12_takes (zz ζ) [aP 97, aI x1, aI x2] h Q := by
  refine RtI.of 0 pn_X12 [aP 97, aI x1, aI x2] rfl rfl ?_
  refine g_aload_n dX12_takes_0 rfl ?_
  refine g_getI (J := 10) dX12_takes_1 fl_X12_230 sh_97 (al_97 hn) (fun _ _ _ => rfl) rfl ?_
  refine g_iconst dX12_takes_4 ?_
  obtain ⟨o1, w⟩ := w
  refine g_cmp_eq (tgt := 14) dX12_takes_5 rfl o1 (by decide) ?_
  refine ite_imp (fun w => ?_) (fun w => ?_) w
  · refine g_aload_n dX12_takes_14 rfl ?_
    refine g_getI (J := 13) dX12_takes_15 fl_X12_240 sh_97 (al_97 hn) (fun _ _ _ => rfl) rfl ?_
    refine g_iload_n dX12_takes_18 rfl ?_
    refine g_iload_n dX12_takes_19 rfl ?_
    refine g_callSI (n := 3) (As := [aI (h 97 13), aI x1, aI x2]) (st := []) dX12_takes_20 ml_X12_262 rfl rfl (Nat.le_of_ble_eq_true rfl) rfl (RtI.mono w (fun r1 h1 w => ?_))
    obtain ⟨o2, w⟩ := w
    refine g_if_ne (tgt := 32) dX12_takes_23 rfl o2 ?_
    refine ite_imp (fun w => ?_) (fun w => ?_) w
    · refine g_aload_n dX12_takes_32 rfl ?_
      refine g_aload_n dX12_takes_33 rfl ?_
      refine g_getI (J := 13) dX12_takes_34 fl_X12_240 sh_97 (al_97 hn) (fun _ _ _ => rfl) rfl ?_
      refine g_putI (J := 17) dX12_takes_37 fl_X12_266 sh_97 (al_97 hn) rfl rfl ?_
      refine g_aload_n dX12_takes_40 rfl ?_
      refine g_callVV (n := 0) (As := []) (st := []) dX12_takes_41 ml_X12_259 sh_97 rfl (al_97 hn) rfl rfl (Nat.le_of_ble_eq_true rfl) (RtV.mono w (fun h2 w => ?_))
      refine g_iconst dX12_takes_44 ?_
      exact g_retZ dX12_takes_45 rfl (Or.inr rfl) w
    · refine g_aload_n dX12_takes_26 rfl ?_
      refine g_iconst dX12_takes_27 ?_
      refine g_callVI (n := 1) (As := [aI 2]) (st := []) dX12_takes_28 ml_X12_256 sh_97 rfl (al_97 hn) rfl rfl (Nat.le_of_ble_eq_true rfl) (RtI.mono w (fun r3 h3 w => ?_))
      obtain ⟨o3, w⟩ := w
      exact g_retZ dX12_takes_31 rfl o3 w
  · refine g_aload_n dX12_takes_8 rfl ?_
    refine g_iconst dX12_takes_9 ?_
    refine g_callVI (n := 1) (As := [aI 1]) (st := []) dX12_takes_10 ml_X12_256 sh_97 rfl (al_97 hn) rfl rfl (Nat.le_of_ble_eq_true rfl) (RtI.mono w (fun r4 h4 w => ?_))
    obtain ⟨o4, w⟩ := w
    exact g_retZ dX12_takes_13 rfl o4 w
theorem b_X12_isTold_2 {l : Launch} {D : Nat} {ζ : ZP} {h : HI} {Q : Int → HI → Prop} {x1 x2 x3 : Int} (hn : 144 ≤ ζ.2.2.2.2) (w : (rg x3) ∧ (rg x2) ∧ (if x2 ≤ x3 then (Q 0 h) else ((0 ≤ (x1 + x3) ∧ (x1 + x3) < 28) ∧ (rl (h 101 (x1 + x3))) ∧ (rl (h 97 16)) ∧ (if ¬ (h 101 (x1 + x3)) = (h 97 16) then (G l (D + 1) 0 0 mX12_isTold (zz ζ) 2 [aP 97, aI x1, aI x2, aI (x3 + 1)] [] h (qI (zz ζ) Q)) else (Q 1 h))))) : G l (D + 1) 0 0 mX12_isTold (zz ζ) 2 [aP 97, aI x1, aI x2, aI x3] [] h (qI (zz ζ) Q) := by
  refine g_iload_n dX12_isTold_2 rfl ?_
  refine g_iload_n dX12_isTold_3 rfl ?_
  obtain ⟨o1, w⟩ := w
  obtain ⟨o2, w⟩ := w
  refine g_cmp_ge (tgt := 31) dX12_isTold_4 rfl o1 o2 ?_
  refine ite_imp (fun w => ?_) (fun w => ?_) w
  · refine g_iconst dX12_isTold_31 ?_
    exact g_retZ dX12_isTold_32 rfl (Or.inl rfl) w
  · refine g_aload_n dX12_isTold_7 rfl ?_
    refine g_getR dX12_isTold_8 fl_X12_40 sh_97 (al_97 hn) (fun _ _ _ => rfl) rf_97_8 ?_
    refine g_iload_n dX12_isTold_11 rfl ?_
    refine g_iload_n dX12_isTold_12 rfl ?_
    refine g_iadd dX12_isTold_13 ?_
    obtain ⟨o3, w⟩ := w
    refine g_lald dX12_isTold_14 sh_101 (al_101 hn) (Nat.le_of_ble_eq_true rfl) o3 ?_
    refine g_aload_n dX12_isTold_15 rfl ?_
    refine g_getJ (J := 16) dX12_isTold_16 fl_X12_243 sh_97 (al_97 hn) (fun _ _ _ => rfl) rfl ?_
    obtain ⟨o4, w⟩ := w
    obtain ⟨o5, w⟩ := w
    refine g_lcmp dX12_isTold_19 o4 o5 ?_
    refine g_if_ne (tgt := 25) dX12_isTold_20 rfl (rg_lcm3 _ _) ?_
    refine ite_imp2 lcm3_ne (fun w => ?_) (fun w => ?_) w
    · refine g_iinc (ls' := [aP 97, aI x1, aI x2, aI (x3 + 1)]) dX12_isTold_25 rfl (Nat.le_of_ble_eq_true rfl) rfl rfl ?_
      refine g_goto (tgt := 2) dX12_isTold_28 rfl ?_
      exact g_sub (ls' := [aP 97, aI x1, aI x2, aI (x3 + 1)]) ⟨Or.inr rfl, Or.inr rfl, Or.inr rfl, Or.inr rfl, trivial⟩ w
    · refine g_iconst dX12_isTold_23 ?_
      exact g_retZ dX12_isTold_24 rfl (Or.inr rfl) w
theorem e_X12_isTold {l : Launch} {D : Nat} {ζ : ZP} {h : HI} {Q : Int → HI → Prop} {x1 x2 : Int} (hn : 144 ≤ ζ.2.2.2.2) (w : G l (D + 1) 0 0 mX12_isTold (zz ζ) 2 [aP 97, aI x1, aI x2, aI 0] [] h (qI (zz ζ) Q)) : RtI l (D + 1) mX12_isTold (zz ζ) [aP 97, aI x1, aI x2] h Q := by
  refine RtI.of 1 pn_X12 [aP 97, aI x1, aI x2, aU] rfl rfl ?_
  refine g_iconst dX12_isTold_0 ?_
  refine g_istore_n (ls' := [aP 97, aI x1, aI x2, aI 0]) dX12_isTold_1 (Nat.le_of_ble_eq_true rfl) rfl rfl ?_
  exact g_sub (ls' := [aP 97, aI x1, aI x2, aI 0]) ⟨Or.inr rfl, Or.inr rfl, Or.inr rfl, Or.inr rfl, trivial⟩ w
theorem e_X12_named {l : Launch} {D : Nat} {ζ : ZP} {h : HI} {Q : Int → HI → Prop} {x1 x2 x3 : Int} (hn : 144 ≤ ζ.2.2.2.2) (w : (0 ≤ x1 ∧ x1 < 11) ∧ (rg (h 100 x1)) ∧ (rg x2) ∧ (if ¬ (h 100 x1) = x2 then (RtV l D mX12_next (zz ζ) [aP 97] h (fun h1 => RtI l D mX12_isName (zz ζ) [aP 97] h1 (fun r2 h2 => (rg r2) ∧ (if ¬ r2 = 0 then (RtI l D mX12_isTold (zz ζ) [aP 97, aI 14, aI (h2 100 0)] h2 (fun r3 h3 => (rg r3) ∧ (if ¬ r3 = 0 then (RtI l D mX12_bad (zz ζ) [aP 97, aI 3] h3 (fun r4 h4 => (r4 = 0 ∨ r4 = 1) ∧ Q r4 h4)) else (RtI l D mX12_isTold (zz ζ) [aP 97, aI 20, aI (h3 100 1)] h3 (fun r5 h5 => (rg r5) ∧ (if r5 = 0 then ((0 ≤ ((14 + x3) + (h5 100 x1)) ∧ ((14 + x3) + (h5 100 x1)) < 28) ∧ RtV l D mX12_next (zz ζ) [aP 97] (hu (hu h5 101 ((14 + x3) + (h5 100 x1)) (h5 97 16)) 100 x1 ((h5 100 x1) + 1)) (fun h6 => Q 1 h6)) else (RtI l D mX12_bad (zz ζ) [aP 97, aI 3] h5 (fun r7 h7 => (r7 = 0 ∨ r7 = 1) ∧ Q r7 h7)))))))) else (RtI l D mX12_bad (zz ζ) [aP 97, aI 1] h2 (fun r8 h8 => (r8 = 0 ∨ r8 = 1) ∧ Q r8 h8)))))) else (RtI l D mX12_bad (zz ζ) [aP 97, aI 4] h (fun r9 h9 => (r9 = 0 ∨ r9 = 1) ∧ Q r9 h9)))) : RtI l (D + 1) mX12_named (zz ζ) [aP 97, aI x1, aI x2, aI x3] h Q := by
  refine RtI.of 0 pn_X12 [aP 97, aI x1, aI x2, aI x3] rfl rfl ?_
  refine g_aload_n dX12_named_0 rfl ?_
  refine g_getR dX12_named_1 fl_X12_37 sh_97 (al_97 hn) (fun _ _ _ => rfl) rf_97_7 ?_
  refine g_iload_n dX12_named_4 rfl ?_
  obtain ⟨o1, w⟩ := w
  refine g_iald dX12_named_5 sh_100 (al_100 hn) (Nat.le_of_ble_eq_true rfl) o1 ?_
  refine g_iload_n dX12_named_6 rfl ?_
  obtain ⟨o2, w⟩ := w
  obtain ⟨o3, w⟩ := w
  refine g_cmp_ne (tgt := 16) dX12_named_7 rfl o2 o3 ?_
  refine ite_imp (fun w => ?_) (fun w => ?_) w
  · refine g_aload_n dX12_named_16 rfl ?_
    refine g_callVV (n := 0) (As := []) (st := []) dX12_named_17 ml_X12_259 sh_97 rfl (al_97 hn) rfl rfl (Nat.le_of_ble_eq_true rfl) (RtV.mono w (fun h1 w => ?_))
    refine g_aload_n dX12_named_20 rfl ?_
    refine g_callVI (n := 0) (As := []) (st := []) dX12_named_21 ml_X12_269 sh_97 rfl (al_97 hn) rfl rfl (Nat.le_of_ble_eq_true rfl) (RtI.mono w (fun r2 h2 w => ?_))
    obtain ⟨o4, w⟩ := w
    refine g_if_ne (tgt := 33) dX12_named_24 rfl o4 ?_
    refine ite_imp (fun w => ?_) (fun w => ?_) w
    · refine g_aload_n dX12_named_33 rfl ?_
      refine g_bipush dX12_named_34 rfl ?_
      refine g_aload_n dX12_named_36 rfl ?_
      refine g_getR dX12_named_37 fl_X12_37 sh_97 (al_97 hn) (fun _ _ _ => rfl) rf_97_7 ?_
      refine g_iconst dX12_named_40 ?_
      refine g_iald dX12_named_41 sh_100 (al_100 hn) (Nat.le_of_ble_eq_true rfl) (by decide) ?_
      refine g_callVI (n := 2) (As := [aI 14, aI (h2 100 0)]) (st := []) dX12_named_42 ml_X12_273 sh_97 rfl (al_97 hn) rfl rfl (Nat.le_of_ble_eq_true rfl) (RtI.mono w (fun r3 h3 w => ?_))
      obtain ⟨o5, w⟩ := w
      refine g_if_ne (tgt := 63) dX12_named_45 rfl o5 ?_
      refine ite_imp (fun w => ?_) (fun w => ?_) w
      · refine g_aload_n dX12_named_63 rfl ?_
        refine g_iconst dX12_named_64 ?_
        refine g_callVI (n := 1) (As := [aI 3]) (st := []) dX12_named_65 ml_X12_256 sh_97 rfl (al_97 hn) rfl rfl (Nat.le_of_ble_eq_true rfl) (RtI.mono w (fun r4 h4 w => ?_))
        obtain ⟨o6, w⟩ := w
        exact g_retZ dX12_named_68 rfl o6 w
      · refine g_aload_n dX12_named_48 rfl ?_
        refine g_bipush dX12_named_49 rfl ?_
        refine g_aload_n dX12_named_51 rfl ?_
        refine g_getR dX12_named_52 fl_X12_37 sh_97 (al_97 hn) (fun _ _ _ => rfl) rf_97_7 ?_
        refine g_iconst dX12_named_55 ?_
        refine g_iald dX12_named_56 sh_100 (al_100 hn) (Nat.le_of_ble_eq_true rfl) (by decide) ?_
        refine g_callVI (n := 2) (As := [aI 20, aI (h3 100 1)]) (st := []) dX12_named_57 ml_X12_273 sh_97 rfl (al_97 hn) rfl rfl (Nat.le_of_ble_eq_true rfl) (RtI.mono w (fun r5 h5 w => ?_))
        obtain ⟨o7, w⟩ := w
        refine g_if_eq (tgt := 69) dX12_named_60 rfl o7 ?_
        refine ite_imp (fun w => ?_) (fun w => ?_) w
        · refine g_aload_n dX12_named_69 rfl ?_
          refine g_getR dX12_named_70 fl_X12_40 sh_97 (al_97 hn) (fun _ _ _ => rfl) rf_97_8 ?_
          refine g_bipush dX12_named_73 rfl ?_
          refine g_iload_n dX12_named_75 rfl ?_
          refine g_iadd dX12_named_76 ?_
          refine g_aload_n dX12_named_77 rfl ?_
          refine g_getR dX12_named_78 fl_X12_37 sh_97 (al_97 hn) (fun _ _ _ => rfl) rf_97_7 ?_
          refine g_iload_n dX12_named_81 rfl ?_
          refine g_iald dX12_named_82 sh_100 (al_100 hn) (Nat.le_of_ble_eq_true rfl) o1 ?_
          refine g_iadd dX12_named_83 ?_
          refine g_aload_n dX12_named_84 rfl ?_
          refine g_getJ (J := 16) dX12_named_85 fl_X12_243 sh_97 (al_97 hn) (fun _ _ _ => rfl) rfl ?_
          obtain ⟨o8, w⟩ := w
          refine g_last dX12_named_88 sh_101 (al_101 hn) (Nat.le_of_ble_eq_true rfl) o8 ?_
          refine g_aload_n dX12_named_89 rfl ?_
          refine g_getR dX12_named_90 fl_X12_37 sh_97 (al_97 hn) (fun _ _ _ => rfl) rf_97_7 ?_
          refine g_iload_n dX12_named_93 rfl ?_
          refine g_dup2 dX12_named_94 rfl rfl ?_
          refine g_iald dX12_named_95 sh_100 (al_100 hn) (Nat.le_of_ble_eq_true rfl) o1 ?_
          refine g_iconst dX12_named_96 ?_
          refine g_iadd dX12_named_97 ?_
          refine g_iast dX12_named_98 sh_100 (al_100 hn) (Nat.le_of_ble_eq_true rfl) o1 ?_
          refine g_aload_n dX12_named_99 rfl ?_
          refine g_callVV (n := 0) (As := []) (st := []) dX12_named_100 ml_X12_259 sh_97 rfl (al_97 hn) rfl rfl (Nat.le_of_ble_eq_true rfl) (RtV.mono w (fun h6 w => ?_))
          refine g_iconst dX12_named_103 ?_
          exact g_retZ dX12_named_104 rfl (Or.inr rfl) w
        · refine g_aload_n dX12_named_63 rfl ?_
          refine g_iconst dX12_named_64 ?_
          refine g_callVI (n := 1) (As := [aI 3]) (st := []) dX12_named_65 ml_X12_256 sh_97 rfl (al_97 hn) rfl rfl (Nat.le_of_ble_eq_true rfl) (RtI.mono w (fun r7 h7 w => ?_))
          obtain ⟨o9, w⟩ := w
          exact g_retZ dX12_named_68 rfl o9 w
    · refine g_aload_n dX12_named_27 rfl ?_
      refine g_iconst dX12_named_28 ?_
      refine g_callVI (n := 1) (As := [aI 1]) (st := []) dX12_named_29 ml_X12_256 sh_97 rfl (al_97 hn) rfl rfl (Nat.le_of_ble_eq_true rfl) (RtI.mono w (fun r8 h8 w => ?_))
      obtain ⟨o10, w⟩ := w
      exact g_retZ dX12_named_32 rfl o10 w
  · refine g_aload_n dX12_named_10 rfl ?_
    refine g_iconst dX12_named_11 ?_
    refine g_callVI (n := 1) (As := [aI 4]) (st := []) dX12_named_12 ml_X12_256 sh_97 rfl (al_97 hn) rfl rfl (Nat.le_of_ble_eq_true rfl) (RtI.mono w (fun r9 h9 w => ?_))
    obtain ⟨o11, w⟩ := w
    exact g_retZ dX12_named_15 rfl o11 w
theorem e_X12_told {l : Launch} {D : Nat} {ζ : ZP} {h : HI} {Q : Int → HI → Prop} {x1 x2 x3 : Int} (hn : 144 ≤ ζ.2.2.2.2) (w : (rg (band (bshr (h 97 19) x1) 1)) ∧ (if ¬ (band (bshr (h 97 19) x1) 1) = 1 then (RtV l D mX12_next (zz ζ) [aP 97] (hu h 97 19 (bor (h 97 19) (bshl 1 x1))) (fun h1 => RtI l D mX12_takes (zz ζ) [aP 97, aI x2, aI x3] h1 (fun r2 h2 => (rg r2) ∧ (if ¬ r2 = 0 then ((0 ≤ x1 ∧ x1 < 11) ∧ (rg x1) ∧ (if x1 = 2 then (RtI l D mX12_takes (zz ζ) [aP 97, aI 0, aI 99] (hu h2 100 x1 (h2 97 17)) (fun r3 h3 => (rg r3) ∧ (if ¬ r3 = 0 then (Q 1 (hu h3 100 3 (h3 97 17))) else (Q 0 h3)))) else (Q 1 (hu h2 100 x1 (h2 97 17))))) else (Q 0 h2))))) else (RtI l D mX12_bad (zz ζ) [aP 97, aI 3] h (fun r4 h4 => (r4 = 0 ∨ r4 = 1) ∧ Q r4 h4)))) : RtI l (D + 1) mX12_told (zz ζ) [aP 97, aI x1, aI x2, aI x3] h Q := by
  refine RtI.of 0 pn_X12 [aP 97, aI x1, aI x2, aI x3] rfl rfl ?_
  refine g_aload_n dX12_told_0 rfl ?_
  refine g_getI (J := 19) dX12_told_1 fl_X12_277 sh_97 (al_97 hn) (fun _ _ _ => rfl) rfl ?_
  refine g_iload_n dX12_told_4 rfl ?_
  refine g_ishr dX12_told_5 ?_
  refine g_iconst dX12_told_6 ?_
  refine g_iand dX12_told_7 ?_
  refine g_iconst dX12_told_8 ?_
  obtain ⟨o1, w⟩ := w
  refine g_cmp_ne (tgt := 18) dX12_told_9 rfl o1 (by decide) ?_
  refine ite_imp (fun w => ?_) (fun w => ?_) w
  · refine g_aload_n dX12_told_18 rfl ?_
    refine g_dup dX12_told_19 rfl ?_
    refine g_getI (J := 19) dX12_told_20 fl_X12_277 sh_97 (al_97 hn) (fun _ _ _ => rfl) rfl ?_
    refine g_iconst dX12_told_23 ?_
    refine g_iload_n dX12_told_24 rfl ?_
    refine g_ishl dX12_told_25 ?_
    refine g_ior dX12_told_26 ?_
    refine g_putI (J := 19) dX12_told_27 fl_X12_277 sh_97 (al_97 hn) rfl rfl ?_
    refine g_aload_n dX12_told_30 rfl ?_
    refine g_callVV (n := 0) (As := []) (st := []) dX12_told_31 ml_X12_259 sh_97 rfl (al_97 hn) rfl rfl (Nat.le_of_ble_eq_true rfl) (RtV.mono w (fun h1 w => ?_))
    refine g_aload_n dX12_told_34 rfl ?_
    refine g_iload_n dX12_told_35 rfl ?_
    refine g_iload_n dX12_told_36 rfl ?_
    refine g_callVI (n := 2) (As := [aI x2, aI x3]) (st := []) dX12_told_37 ml_X12_280 sh_97 rfl (al_97 hn) rfl rfl (Nat.le_of_ble_eq_true rfl) (RtI.mono w (fun r2 h2 w => ?_))
    obtain ⟨o2, w⟩ := w
    refine g_if_ne (tgt := 45) dX12_told_40 rfl o2 ?_
    refine ite_imp (fun w => ?_) (fun w => ?_) w
    · refine g_aload_n dX12_told_45 rfl ?_
      refine g_getR dX12_told_46 fl_X12_37 sh_97 (al_97 hn) (fun _ _ _ => rfl) rf_97_7 ?_
      refine g_iload_n dX12_told_49 rfl ?_
      refine g_aload_n dX12_told_50 rfl ?_
      refine g_getI (J := 17) dX12_told_51 fl_X12_266 sh_97 (al_97 hn) (fun _ _ _ => rfl) rfl ?_
      obtain ⟨o3, w⟩ := w
      refine g_iast dX12_told_54 sh_100 (al_100 hn) (Nat.le_of_ble_eq_true rfl) o3 ?_
      refine g_iload_n dX12_told_55 rfl ?_
      refine g_iconst dX12_told_56 ?_
      obtain ⟨o4, w⟩ := w
      refine g_cmp_eq (tgt := 62) dX12_told_57 rfl o4 (by decide) ?_
      refine ite_imp (fun w => ?_) (fun w => ?_) w
      · refine g_aload_n dX12_told_62 rfl ?_
        refine g_iconst dX12_told_63 ?_
        refine g_bipush dX12_told_64 rfl ?_
        refine g_callVI (n := 2) (As := [aI 0, aI 99]) (st := []) dX12_told_66 ml_X12_280 sh_97 rfl (al_97 hn) rfl rfl (Nat.le_of_ble_eq_true rfl) (RtI.mono w (fun r3 h3 w => ?_))
        obtain ⟨o5, w⟩ := w
        refine g_if_ne (tgt := 74) dX12_told_69 rfl o5 ?_
        refine ite_imp (fun w => ?_) (fun w => ?_) w
        · refine g_aload_n dX12_told_74 rfl ?_
          refine g_getR dX12_told_75 fl_X12_37 sh_97 (al_97 hn) (fun _ _ _ => rfl) rf_97_7 ?_
          refine g_iconst dX12_told_78 ?_
          refine g_aload_n dX12_told_79 rfl ?_
          refine g_getI (J := 17) dX12_told_80 fl_X12_266 sh_97 (al_97 hn) (fun _ _ _ => rfl) rfl ?_
          refine g_iast dX12_told_83 sh_100 (al_100 hn) (Nat.le_of_ble_eq_true rfl) (by decide) ?_
          refine g_iconst dX12_told_84 ?_
          exact g_retZ dX12_told_85 rfl (Or.inr rfl) w
        · refine g_iconst dX12_told_72 ?_
          exact g_retZ dX12_told_73 rfl (Or.inl rfl) w
      · refine g_iconst dX12_told_60 ?_
        exact g_retZ dX12_told_61 rfl (Or.inr rfl) w
    · refine g_iconst dX12_told_43 ?_
      exact g_retZ dX12_told_44 rfl (Or.inl rfl) w
  · refine g_aload_n dX12_told_12 rfl ?_
    refine g_iconst dX12_told_13 ?_
    refine g_callVI (n := 1) (As := [aI 3]) (st := []) dX12_told_14 ml_X12_256 sh_97 rfl (al_97 hn) rfl rfl (Nat.le_of_ble_eq_true rfl) (RtI.mono w (fun r4 h4 w => ?_))
    obtain ⟨o6, w⟩ := w
    exact g_retZ dX12_told_17 rfl o6 w
theorem e_X12_line {l : Launch} {D : Nat} {ζ : ZP} {h : HI} {Q : Int → HI → Prop} (hn : 144 ≤ ζ.2.2.2.2) (w : RtI l D mX12_isWord (zz ζ) [aP 97, aL 422608528232] h (fun r1 h1 => (rg r1) ∧ (if r1 = 0 then (RtI l D mX12_isWord (zz ζ) [aP 97, aL 6451064] h1 (fun r2 h2 => (rg r2) ∧ (if r2 = 0 then (RtI l D mX12_isWord (zz ζ) [aP 97, aL 1717658725] h2 (fun r3 h3 => (rg r3) ∧ (if r3 = 0 then (RtI l D mX12_isWord (zz ζ) [aP 97, aL 439905906546] h3 (fun r4 h4 => (rg r4) ∧ (if r4 = 0 then (RtI l D mX12_isWord (zz ζ) [aP 97, aL 422725379428] h4 (fun r5 h5 => (rg r5) ∧ (if r5 = 0 then (RtI l D mX12_isWord (zz ζ) [aP 97, aL 1718973285] h5 (fun r6 h6 => (rg r6) ∧ (if r6 = 0 then (RtI l D mX12_isWord (zz ζ) [aP 97, aL 474315584357] h6 (fun r7 h7 => (rg r7) ∧ (if r7 = 0 then (RtI l D mX12_isWord (zz ζ) [aP 97, aL 1818583403] h7 (fun r8 h8 => (rg r8) ∧ (if r8 = 0 then (RtI l D mX12_isWord (zz ζ) [aP 97, aL 1786080624] h8 (fun r9 h9 => (rg r9) ∧ (if r9 = 0 then (RtI l D mX12_isWord (zz ζ) [aP 97, aL 2002874989] h9 (fun r10 h10 => (rg r10) ∧ (if r10 = 0 then (RtI l D mX12_bad (zz ζ) [aP 97, aI 1] h10 (fun r11 h11 => (r11 = 0 ∨ r11 = 1) ∧ Q r11 h11)) else (RtI l D mX12_told (zz ζ) [aP 97, aI 10, aI 0, aI 99] h10 (fun r12 h12 => (r12 = 0 ∨ r12 = 1) ∧ Q r12 h12))))) else (RtI l D mX12_told (zz ζ) [aP 97, aI 9, aI 0, aI 99] h9 (fun r13 h13 => (r13 = 0 ∨ r13 = 1) ∧ Q r13 h13))))) else (RtI l D mX12_told (zz ζ) [aP 97, aI 8, aI 0, aI 99] h8 (fun r14 h14 => (r14 = 0 ∨ r14 = 1) ∧ Q r14 h14))))) else (RtI l D mX12_told (zz ζ) [aP 97, aI 7, aI 0, aI 99] h7 (fun r15 h15 => (r15 = 0 ∨ r15 = 1) ∧ Q r15 h15))))) else (RtI l D mX12_told (zz ζ) [aP 97, aI 6, aI 1, aI 999] h6 (fun r16 h16 => (r16 = 0 ∨ r16 = 1) ∧ Q r16 h16))))) else (RtI l D mX12_told (zz ζ) [aP 97, aI 5, aI 1, aI 99] h5 (fun r17 h17 => (r17 = 0 ∨ r17 = 1) ∧ Q r17 h17))))) else (RtI l D mX12_told (zz ζ) [aP 97, aI 4, aI 1, aI 999] h4 (fun r18 h18 => (r18 = 0 ∨ r18 = 1) ∧ Q r18 h18))))) else (RtI l D mX12_told (zz ζ) [aP 97, aI 2, aI 0, aI 99] h3 (fun r19 h19 => (r19 = 0 ∨ r19 = 1) ∧ Q r19 h19))))) else (RtI l D mX12_named (zz ζ) [aP 97, aI 1, aI 8, aI 6] h2 (fun r20 h20 => (r20 = 0 ∨ r20 = 1) ∧ Q r20 h20))))) else (RtI l D mX12_named (zz ζ) [aP 97, aI 0, aI 6, aI 0] h1 (fun r21 h21 => (r21 = 0 ∨ r21 = 1) ∧ Q r21 h21))))) : RtI l (D + 1) mX12_line (zz ζ) [aP 97] h Q := by
  refine RtI.of 0 pn_X12 [aP 97] rfl rfl ?_
  refine g_aload_n dX12_line_0 rfl ?_
  refine g_ldc2 (n := 422608528232) dX12_line_1 kl_X12_171 rfl ?_
  refine g_callVI (n := 1) (As := [aL 422608528232]) (st := []) dX12_line_4 ml_X12_283 sh_97 rfl (al_97 hn) rfl rfl (Nat.le_of_ble_eq_true rfl) (RtI.mono w (fun r1 h1 w => ?_))
  obtain ⟨o1, w⟩ := w
  refine g_if_eq (tgt := 19) dX12_line_7 rfl o1 ?_
  refine ite_imp (fun w => ?_) (fun w => ?_) w
  · refine g_aload_n dX12_line_19 rfl ?_
    refine g_ldc2 (n := 6451064) dX12_line_20 kl_X12_173 rfl ?_
    refine g_callVI (n := 1) (As := [aL 6451064]) (st := []) dX12_line_23 ml_X12_283 sh_97 rfl (al_97 hn) rfl rfl (Nat.le_of_ble_eq_true rfl) (RtI.mono w (fun r2 h2 w => ?_))
    obtain ⟨o2, w⟩ := w
    refine g_if_eq (tgt := 39) dX12_line_26 rfl o2 ?_
    refine ite_imp (fun w => ?_) (fun w => ?_) w
    · refine g_aload_n dX12_line_39 rfl ?_
      refine g_ldc2 (n := 1717658725) dX12_line_40 kl_X12_175 rfl ?_
      refine g_callVI (n := 1) (As := [aL 1717658725]) (st := []) dX12_line_43 ml_X12_283 sh_97 rfl (al_97 hn) rfl rfl (Nat.le_of_ble_eq_true rfl) (RtI.mono w (fun r3 h3 w => ?_))
      obtain ⟨o3, w⟩ := w
      refine g_if_eq (tgt := 58) dX12_line_46 rfl o3 ?_
      refine ite_imp (fun w => ?_) (fun w => ?_) w
      · refine g_aload_n dX12_line_58 rfl ?_
        refine g_ldc2 (n := 439905906546) dX12_line_59 kl_X12_177 rfl ?_
        refine g_callVI (n := 1) (As := [aL 439905906546]) (st := []) dX12_line_62 ml_X12_283 sh_97 rfl (al_97 hn) rfl rfl (Nat.le_of_ble_eq_true rfl) (RtI.mono w (fun r4 h4 w => ?_))
        obtain ⟨o4, w⟩ := w
        refine g_if_eq (tgt := 78) dX12_line_65 rfl o4 ?_
        refine ite_imp (fun w => ?_) (fun w => ?_) w
        · refine g_aload_n dX12_line_78 rfl ?_
          refine g_ldc2 (n := 422725379428) dX12_line_79 kl_X12_179 rfl ?_
          refine g_callVI (n := 1) (As := [aL 422725379428]) (st := []) dX12_line_82 ml_X12_283 sh_97 rfl (al_97 hn) rfl rfl (Nat.le_of_ble_eq_true rfl) (RtI.mono w (fun r5 h5 w => ?_))
          obtain ⟨o5, w⟩ := w
          refine g_if_eq (tgt := 97) dX12_line_85 rfl o5 ?_
          refine ite_imp (fun w => ?_) (fun w => ?_) w
          · refine g_aload_n dX12_line_97 rfl ?_
            refine g_ldc2 (n := 1718973285) dX12_line_98 kl_X12_181 rfl ?_
            refine g_callVI (n := 1) (As := [aL 1718973285]) (st := []) dX12_line_101 ml_X12_283 sh_97 rfl (al_97 hn) rfl rfl (Nat.le_of_ble_eq_true rfl) (RtI.mono w (fun r6 h6 w => ?_))
            obtain ⟨o6, w⟩ := w
            refine g_if_eq (tgt := 118) dX12_line_104 rfl o6 ?_
            refine ite_imp (fun w => ?_) (fun w => ?_) w
            · refine g_aload_n dX12_line_118 rfl ?_
              refine g_ldc2 (n := 474315584357) dX12_line_119 kl_X12_183 rfl ?_
              refine g_callVI (n := 1) (As := [aL 474315584357]) (st := []) dX12_line_122 ml_X12_283 sh_97 rfl (al_97 hn) rfl rfl (Nat.le_of_ble_eq_true rfl) (RtI.mono w (fun r7 h7 w => ?_))
              obtain ⟨o7, w⟩ := w
              refine g_if_eq (tgt := 138) dX12_line_125 rfl o7 ?_
              refine ite_imp (fun w => ?_) (fun w => ?_) w
              · refine g_aload_n dX12_line_138 rfl ?_
                refine g_ldc2 (n := 1818583403) dX12_line_139 kl_X12_185 rfl ?_
                refine g_callVI (n := 1) (As := [aL 1818583403]) (st := []) dX12_line_142 ml_X12_283 sh_97 rfl (al_97 hn) rfl rfl (Nat.le_of_ble_eq_true rfl) (RtI.mono w (fun r8 h8 w => ?_))
                obtain ⟨o8, w⟩ := w
                refine g_if_eq (tgt := 158) dX12_line_145 rfl o8 ?_
                refine ite_imp (fun w => ?_) (fun w => ?_) w
                · refine g_aload_n dX12_line_158 rfl ?_
                  refine g_ldc2 (n := 1786080624) dX12_line_159 kl_X12_187 rfl ?_
                  refine g_callVI (n := 1) (As := [aL 1786080624]) (st := []) dX12_line_162 ml_X12_283 sh_97 rfl (al_97 hn) rfl rfl (Nat.le_of_ble_eq_true rfl) (RtI.mono w (fun r9 h9 w => ?_))
                  obtain ⟨o9, w⟩ := w
                  refine g_if_eq (tgt := 178) dX12_line_165 rfl o9 ?_
                  refine ite_imp (fun w => ?_) (fun w => ?_) w
                  · refine g_aload_n dX12_line_178 rfl ?_
                    refine g_ldc2 (n := 2002874989) dX12_line_179 kl_X12_189 rfl ?_
                    refine g_callVI (n := 1) (As := [aL 2002874989]) (st := []) dX12_line_182 ml_X12_283 sh_97 rfl (al_97 hn) rfl rfl (Nat.le_of_ble_eq_true rfl) (RtI.mono w (fun r10 h10 w => ?_))
                    obtain ⟨o10, w⟩ := w
                    refine g_if_eq (tgt := 200) dX12_line_185 rfl o10 ?_
                    refine ite_imp (fun w => ?_) (fun w => ?_) w
                    · refine g_aload_n dX12_line_200 rfl ?_
                      refine g_iconst dX12_line_201 ?_
                      refine g_callVI (n := 1) (As := [aI 1]) (st := []) dX12_line_202 ml_X12_256 sh_97 rfl (al_97 hn) rfl rfl (Nat.le_of_ble_eq_true rfl) (RtI.mono w (fun r11 h11 w => ?_))
                      obtain ⟨o11, w⟩ := w
                      exact g_retZ dX12_line_205 rfl o11 w
                    · refine g_aload_n dX12_line_188 rfl ?_
                      refine g_bipush dX12_line_189 rfl ?_
                      refine g_iconst dX12_line_191 ?_
                      refine g_bipush dX12_line_192 rfl ?_
                      refine g_callVI (n := 3) (As := [aI 10, aI 0, aI 99]) (st := []) dX12_line_194 ml_X12_290 sh_97 rfl (al_97 hn) rfl rfl (Nat.le_of_ble_eq_true rfl) (RtI.mono w (fun r12 h12 w => ?_))
                      refine g_goto (tgt := 205) dX12_line_197 rfl ?_
                      obtain ⟨o12, w⟩ := w
                      exact g_retZ dX12_line_205 rfl o12 w
                  · refine g_aload_n dX12_line_168 rfl ?_
                    refine g_bipush dX12_line_169 rfl ?_
                    refine g_iconst dX12_line_171 ?_
                    refine g_bipush dX12_line_172 rfl ?_
                    refine g_callVI (n := 3) (As := [aI 9, aI 0, aI 99]) (st := []) dX12_line_174 ml_X12_290 sh_97 rfl (al_97 hn) rfl rfl (Nat.le_of_ble_eq_true rfl) (RtI.mono w (fun r13 h13 w => ?_))
                    obtain ⟨o13, w⟩ := w
                    exact g_retZ dX12_line_177 rfl o13 w
                · refine g_aload_n dX12_line_148 rfl ?_
                  refine g_bipush dX12_line_149 rfl ?_
                  refine g_iconst dX12_line_151 ?_
                  refine g_bipush dX12_line_152 rfl ?_
                  refine g_callVI (n := 3) (As := [aI 8, aI 0, aI 99]) (st := []) dX12_line_154 ml_X12_290 sh_97 rfl (al_97 hn) rfl rfl (Nat.le_of_ble_eq_true rfl) (RtI.mono w (fun r14 h14 w => ?_))
                  obtain ⟨o14, w⟩ := w
                  exact g_retZ dX12_line_157 rfl o14 w
              · refine g_aload_n dX12_line_128 rfl ?_
                refine g_bipush dX12_line_129 rfl ?_
                refine g_iconst dX12_line_131 ?_
                refine g_bipush dX12_line_132 rfl ?_
                refine g_callVI (n := 3) (As := [aI 7, aI 0, aI 99]) (st := []) dX12_line_134 ml_X12_290 sh_97 rfl (al_97 hn) rfl rfl (Nat.le_of_ble_eq_true rfl) (RtI.mono w (fun r15 h15 w => ?_))
                obtain ⟨o15, w⟩ := w
                exact g_retZ dX12_line_137 rfl o15 w
            · refine g_aload_n dX12_line_107 rfl ?_
              refine g_bipush dX12_line_108 rfl ?_
              refine g_iconst dX12_line_110 ?_
              refine g_sipush dX12_line_111 rfl ?_
              refine g_callVI (n := 3) (As := [aI 6, aI 1, aI 999]) (st := []) dX12_line_114 ml_X12_290 sh_97 rfl (al_97 hn) rfl rfl (Nat.le_of_ble_eq_true rfl) (RtI.mono w (fun r16 h16 w => ?_))
              obtain ⟨o16, w⟩ := w
              exact g_retZ dX12_line_117 rfl o16 w
          · refine g_aload_n dX12_line_88 rfl ?_
            refine g_iconst dX12_line_89 ?_
            refine g_iconst dX12_line_90 ?_
            refine g_bipush dX12_line_91 rfl ?_
            refine g_callVI (n := 3) (As := [aI 5, aI 1, aI 99]) (st := []) dX12_line_93 ml_X12_290 sh_97 rfl (al_97 hn) rfl rfl (Nat.le_of_ble_eq_true rfl) (RtI.mono w (fun r17 h17 w => ?_))
            obtain ⟨o17, w⟩ := w
            exact g_retZ dX12_line_96 rfl o17 w
        · refine g_aload_n dX12_line_68 rfl ?_
          refine g_iconst dX12_line_69 ?_
          refine g_iconst dX12_line_70 ?_
          refine g_sipush dX12_line_71 rfl ?_
          refine g_callVI (n := 3) (As := [aI 4, aI 1, aI 999]) (st := []) dX12_line_74 ml_X12_290 sh_97 rfl (al_97 hn) rfl rfl (Nat.le_of_ble_eq_true rfl) (RtI.mono w (fun r18 h18 w => ?_))
          obtain ⟨o18, w⟩ := w
          exact g_retZ dX12_line_77 rfl o18 w
      · refine g_aload_n dX12_line_49 rfl ?_
        refine g_iconst dX12_line_50 ?_
        refine g_iconst dX12_line_51 ?_
        refine g_bipush dX12_line_52 rfl ?_
        refine g_callVI (n := 3) (As := [aI 2, aI 0, aI 99]) (st := []) dX12_line_54 ml_X12_290 sh_97 rfl (al_97 hn) rfl rfl (Nat.le_of_ble_eq_true rfl) (RtI.mono w (fun r19 h19 w => ?_))
        obtain ⟨o19, w⟩ := w
        exact g_retZ dX12_line_57 rfl o19 w
    · refine g_aload_n dX12_line_29 rfl ?_
      refine g_iconst dX12_line_30 ?_
      refine g_bipush dX12_line_31 rfl ?_
      refine g_bipush dX12_line_33 rfl ?_
      refine g_callVI (n := 3) (As := [aI 1, aI 8, aI 6]) (st := []) dX12_line_35 ml_X12_287 sh_97 rfl (al_97 hn) rfl rfl (Nat.le_of_ble_eq_true rfl) (RtI.mono w (fun r20 h20 w => ?_))
      obtain ⟨o20, w⟩ := w
      exact g_retZ dX12_line_38 rfl o20 w
  · refine g_aload_n dX12_line_10 rfl ?_
    refine g_iconst dX12_line_11 ?_
    refine g_bipush dX12_line_12 rfl ?_
    refine g_iconst dX12_line_14 ?_
    refine g_callVI (n := 3) (As := [aI 0, aI 6, aI 0]) (st := []) dX12_line_15 ml_X12_287 sh_97 rfl (al_97 hn) rfl rfl (Nat.le_of_ble_eq_true rfl) (RtI.mono w (fun r21 h21 w => ?_))
    obtain ⟨o21, w⟩ := w
    exact g_retZ dX12_line_18 rfl o21 w
theorem b_X12_house_35 {l : Launch} {D : Nat} {ζ : ZP} {h : HI} {Q : Int → HI → Prop} (hn : 144 ≤ ζ.2.2.2.2) (w : (rg (h 97 10)) ∧ (if (h 97 10) = 0 then (G l (D + 1) 0 0 mX12_house (zz ζ) 80 [aP 97, aI 0] [] h (qI (zz ζ) Q)) else (RtI l D mX12_line (zz ζ) [aP 97] h (fun r1 h1 => (rg r1) ∧ (if r1 = 0 then (Q ((-1) - (h1 97 15)) h1) else (RtI l D mX12_sign (zz ζ) [aP 97, aI 59] h1 (fun r2 h2 => (rg r2) ∧ (if ¬ r2 = 0 then (G l (D + 1) 0 0 mX12_house (zz ζ) 35 [aP 97, aU] [] (hu h2 97 18 ((h2 97 18) + 1)) (qI (zz ζ) Q)) else (Q ((-1) - (h2 97 15)) h2))))))))) : G l (D + 1) 0 0 mX12_house (zz ζ) 35 [aP 97, aU] [] h (qI (zz ζ) Q) := by
  refine g_aload_n dX12_house_35 rfl ?_
  refine g_getI (J := 10) dX12_house_36 fl_X12_230 sh_97 (al_97 hn) (fun _ _ _ => rfl) rfl ?_
  obtain ⟨o1, w⟩ := w
  refine g_if_eq (tgt := 78) dX12_house_39 rfl o1 ?_
  refine ite_imp (fun w => ?_) (fun w => ?_) w
  · refine g_iconst dX12_house_78 ?_
    refine g_istore_n (ls' := [aP 97, aI 0]) dX12_house_79 (Nat.le_of_ble_eq_true rfl) rfl rfl ?_
    exact g_sub (ls' := [aP 97, aI 0]) ⟨Or.inr rfl, Or.inr rfl, trivial⟩ w
  · refine g_aload_n dX12_house_42 rfl ?_
    refine g_callVI (n := 0) (As := []) (st := []) dX12_house_43 ml_X12_298 sh_97 rfl (al_97 hn) rfl rfl (Nat.le_of_ble_eq_true rfl) (RtI.mono w (fun r1 h1 w => ?_))
    obtain ⟨o2, w⟩ := w
    refine g_if_eq (tgt := 58) dX12_house_46 rfl o2 ?_
    refine ite_imp (fun w => ?_) (fun w => ?_) w
    · refine g_iconst dX12_house_58 ?_
      refine g_aload_n dX12_house_59 rfl ?_
      refine g_getI (J := 15) dX12_house_60 fl_X12_250 sh_97 (al_97 hn) (fun _ _ _ => rfl) rfl ?_
      refine g_isub dX12_house_63 ?_
      exact g_retI dX12_house_64 rfl w
    · refine g_aload_n dX12_house_49 rfl ?_
      refine g_bipush dX12_house_50 rfl ?_
      refine g_callVI (n := 1) (As := [aI 59]) (st := []) dX12_house_52 ml_X12_301 sh_97 rfl (al_97 hn) rfl rfl (Nat.le_of_ble_eq_true rfl) (RtI.mono w (fun r2 h2 w => ?_))
      obtain ⟨o3, w⟩ := w
      refine g_if_ne (tgt := 65) dX12_house_55 rfl o3 ?_
      refine ite_imp (fun w => ?_) (fun w => ?_) w
      · refine g_aload_n dX12_house_65 rfl ?_
        refine g_dup dX12_house_66 rfl ?_
        refine g_getI (J := 18) dX12_house_67 fl_X12_295 sh_97 (al_97 hn) (fun _ _ _ => rfl) rfl ?_
        refine g_iconst dX12_house_70 ?_
        refine g_iadd dX12_house_71 ?_
        refine g_putI (J := 18) dX12_house_72 fl_X12_295 sh_97 (al_97 hn) rfl rfl ?_
        refine g_goto (tgt := 35) dX12_house_75 rfl ?_
        exact g_sub (ls' := [aP 97, aU]) ⟨Or.inr rfl, Or.inl rfl, trivial⟩ w
      · refine g_iconst dX12_house_58 ?_
        refine g_aload_n dX12_house_59 rfl ?_
        refine g_getI (J := 15) dX12_house_60 fl_X12_250 sh_97 (al_97 hn) (fun _ _ _ => rfl) rfl ?_
        refine g_isub dX12_house_63 ?_
        exact g_retI dX12_house_64 rfl w
theorem b_X12_house_80 {l : Launch} {D : Nat} {ζ : ZP} {h : HI} {Q : Int → HI → Prop} {x1 : Int} (hn : 144 ≤ ζ.2.2.2.2) (w : (rg x1) ∧ (if 2819 ≤ x1 then (G l (D + 1) 0 0 mX12_house (zz ζ) 117 [aP 97, aI 0] [] h (qI (zz ζ) Q)) else (if 11 ≤ x1 then ((0 ≤ x1 ∧ x1 < 2819) ∧ G l (D + 1) 0 0 mX12_house (zz ζ) 80 [aP 97, aI (x1 + 1)] [] (hu h 99 x1 0) (qI (zz ζ) Q)) else ((0 ≤ x1 ∧ x1 < 11) ∧ (0 ≤ x1 ∧ x1 < 2819) ∧ G l (D + 1) 0 0 mX12_house (zz ζ) 80 [aP 97, aI (x1 + 1)] [] (hu h 99 x1 (h 100 x1)) (qI (zz ζ) Q))))) : G l (D + 1) 0 0 mX12_house (zz ζ) 80 [aP 97, aI x1] [] h (qI (zz ζ) Q) := by
  refine g_iload_n dX12_house_80 rfl ?_
  refine g_sipush dX12_house_81 rfl ?_
  obtain ⟨o1, w⟩ := w
  refine g_cmp_ge (tgt := 115) dX12_house_84 rfl o1 (by decide) ?_
  refine ite_imp (fun w => ?_) (fun w => ?_) w
  · refine g_iconst dX12_house_115 ?_
    refine g_istore_n (ls' := [aP 97, aI 0]) dX12_house_116 (Nat.le_of_ble_eq_true rfl) rfl rfl ?_
    exact g_sub (ls' := [aP 97, aI 0]) ⟨Or.inr rfl, Or.inr rfl, trivial⟩ w
  · refine g_aload_n dX12_house_87 rfl ?_
    refine g_getR dX12_house_88 fl_X12_33 sh_97 (al_97 hn) (fun _ _ _ => rfl) rf_97_6 ?_
    refine g_iload_n dX12_house_91 rfl ?_
    refine g_iload_n dX12_house_92 rfl ?_
    refine g_bipush dX12_house_93 rfl ?_
    refine g_cmp_ge (tgt := 107) dX12_house_95 rfl o1 (by decide) ?_
    refine ite_imp (fun w => ?_) (fun w => ?_) w
    · refine g_iconst dX12_house_107 ?_
      obtain ⟨o2, w⟩ := w
      refine g_iast dX12_house_108 sh_99 (al_99 hn) (Nat.le_of_ble_eq_true rfl) o2 ?_
      refine g_iinc (ls' := [aP 97, aI (x1 + 1)]) dX12_house_109 rfl (Nat.le_of_ble_eq_true rfl) rfl rfl ?_
      refine g_goto (tgt := 80) dX12_house_112 rfl ?_
      exact g_sub (ls' := [aP 97, aI (x1 + 1)]) ⟨Or.inr rfl, Or.inr rfl, trivial⟩ w
    · refine g_aload_n dX12_house_98 rfl ?_
      refine g_getR dX12_house_99 fl_X12_37 sh_97 (al_97 hn) (fun _ _ _ => rfl) rf_97_7 ?_
      refine g_iload_n dX12_house_102 rfl ?_
      obtain ⟨o3, w⟩ := w
      refine g_iald dX12_house_103 sh_100 (al_100 hn) (Nat.le_of_ble_eq_true rfl) o3 ?_
      refine g_goto (tgt := 108) dX12_house_104 rfl ?_
      obtain ⟨o4, w⟩ := w
      refine g_iast dX12_house_108 sh_99 (al_99 hn) (Nat.le_of_ble_eq_true rfl) o4 ?_
      refine g_iinc (ls' := [aP 97, aI (x1 + 1)]) dX12_house_109 rfl (Nat.le_of_ble_eq_true rfl) rfl rfl ?_
      refine g_goto (tgt := 80) dX12_house_112 rfl ?_
      exact g_sub (ls' := [aP 97, aI (x1 + 1)]) ⟨Or.inr rfl, Or.inr rfl, trivial⟩ w
theorem b_X12_house_117 {l : Launch} {D : Nat} {ζ : ZP} {h : HI} {Q : Int → HI → Prop} {x1 : Int} (hn : 144 ≤ ζ.2.2.2.2) (w : (rg x1) ∧ (if 14 ≤ x1 then (Q (h 97 18) h) else ((0 ≤ (14 + x1) ∧ (14 + x1) < 28) ∧ (0 ≤ x1 ∧ x1 < 28) ∧ G l (D + 1) 0 0 mX12_house (zz ζ) 117 [aP 97, aI (x1 + 1)] [] (hu h 101 x1 (h 101 (14 + x1))) (qI (zz ζ) Q)))) : G l (D + 1) 0 0 mX12_house (zz ζ) 117 [aP 97, aI x1] [] h (qI (zz ζ) Q) := by
  refine g_iload_n dX12_house_117 rfl ?_
  refine g_bipush dX12_house_118 rfl ?_
  obtain ⟨o1, w⟩ := w
  refine g_cmp_ge (tgt := 144) dX12_house_120 rfl o1 (by decide) ?_
  refine ite_imp (fun w => ?_) (fun w => ?_) w
  · refine g_aload_n dX12_house_144 rfl ?_
    refine g_getI (J := 18) dX12_house_145 fl_X12_295 sh_97 (al_97 hn) (fun _ _ _ => rfl) rfl ?_
    exact g_retI dX12_house_148 rfl w
  · refine g_aload_n dX12_house_123 rfl ?_
    refine g_getR dX12_house_124 fl_X12_40 sh_97 (al_97 hn) (fun _ _ _ => rfl) rf_97_8 ?_
    refine g_iload_n dX12_house_127 rfl ?_
    refine g_aload_n dX12_house_128 rfl ?_
    refine g_getR dX12_house_129 fl_X12_40 sh_97 (al_97 hn) (fun _ _ _ => rfl) rf_97_8 ?_
    refine g_bipush dX12_house_132 rfl ?_
    refine g_iload_n dX12_house_134 rfl ?_
    refine g_iadd dX12_house_135 ?_
    obtain ⟨o2, w⟩ := w
    refine g_lald dX12_house_136 sh_101 (al_101 hn) (Nat.le_of_ble_eq_true rfl) o2 ?_
    obtain ⟨o3, w⟩ := w
    refine g_last dX12_house_137 sh_101 (al_101 hn) (Nat.le_of_ble_eq_true rfl) o3 ?_
    refine g_iinc (ls' := [aP 97, aI (x1 + 1)]) dX12_house_138 rfl (Nat.le_of_ble_eq_true rfl) rfl rfl ?_
    refine g_goto (tgt := 117) dX12_house_141 rfl ?_
    exact g_sub (ls' := [aP 97, aI (x1 + 1)]) ⟨Or.inr rfl, Or.inr rfl, trivial⟩ w
theorem e_X12_house {l : Launch} {D : Nat} {ζ : ZP} {h : HI} {Q : Int → HI → Prop} (hn : 144 ≤ ζ.2.2.2.2) (w : RtV l D mX12_taken (zz ζ) [aP 97, aI 500] (hu h 97 0 0) (fun h1 => RtV l D mX12_plainHouse (zz ζ) [aP 97] (hu (hu (hu h1 97 14 0) 97 19 0) 97 18 0) (fun h2 => RtV l D mX12_next (zz ζ) [aP 97] h2 (fun h3 => G l (D + 1) 0 0 mX12_house (zz ζ) 35 [aP 97, aU] [] h3 (qI (zz ζ) Q))))) : RtI l (D + 1) mX12_house (zz ζ) [aP 97] h Q := by
  refine RtI.of 1 pn_X12 [aP 97, aU] rfl rfl ?_
  refine g_aload_n dX12_house_0 rfl ?_
  refine g_iconst dX12_house_1 ?_
  refine g_putI (J := 0) dX12_house_2 fl_X12_1 sh_97 (al_97 hn) rfl rfl ?_
  refine g_aload_n dX12_house_5 rfl ?_
  refine g_sipush dX12_house_6 rfl ?_
  refine g_callVV (n := 1) (As := [aI 500]) (st := []) dX12_house_9 ml_X12_292 sh_97 rfl (al_97 hn) rfl rfl (Nat.le_of_ble_eq_true rfl) (RtV.mono w (fun h1 w => ?_))
  refine g_aload_n dX12_house_12 rfl ?_
  refine g_iconst dX12_house_13 ?_
  refine g_putI (J := 14) dX12_house_14 fl_X12_247 sh_97 (al_97 hn) rfl rfl ?_
  refine g_aload_n dX12_house_17 rfl ?_
  refine g_iconst dX12_house_18 ?_
  refine g_putI (J := 19) dX12_house_19 fl_X12_277 sh_97 (al_97 hn) rfl rfl ?_
  refine g_aload_n dX12_house_22 rfl ?_
  refine g_iconst dX12_house_23 ?_
  refine g_putI (J := 18) dX12_house_24 fl_X12_295 sh_97 (al_97 hn) rfl rfl ?_
  refine g_aload_n dX12_house_27 rfl ?_
  refine g_callVV (n := 0) (As := []) (st := []) dX12_house_28 ml_X12_217 sh_97 rfl (al_97 hn) rfl rfl (Nat.le_of_ble_eq_true rfl) (RtV.mono w (fun h2 w => ?_))
  refine g_aload_n dX12_house_31 rfl ?_
  refine g_callVV (n := 0) (As := []) (st := []) dX12_house_32 ml_X12_259 sh_97 rfl (al_97 hn) rfl rfl (Nat.le_of_ble_eq_true rfl) (RtV.mono w (fun h3 w => ?_))
  exact g_sub (ls' := [aP 97, aU]) ⟨Or.inr rfl, Or.inl rfl, trivial⟩ w
theorem e_X12_fault {l : Launch} {D : Nat} {ζ : ZP} {h : HI} {Q : Int → HI → Prop} (hn : 144 ≤ ζ.2.2.2.2) (w : Q (h 97 14) (hu h 97 0 0)) : RtI l (D + 1) mX12_fault (zz ζ) [aP 97] h Q := by
  refine RtI.of 0 pn_X12 [aP 97] rfl rfl ?_
  refine g_aload_n dX12_fault_0 rfl ?_
  refine g_iconst dX12_fault_1 ?_
  refine g_putI (J := 0) dX12_fault_2 fl_X12_1 sh_97 (al_97 hn) rfl rfl ?_
  refine g_aload_n dX12_fault_5 rfl ?_
  refine g_getI (J := 14) dX12_fault_6 fl_X12_247 sh_97 (al_97 hn) (fun _ _ _ => rfl) rfl ?_
  exact g_retI dX12_fault_9 rfl w
theorem e_X12_isCell {l : Launch} {D : Nat} {ζ : ZP} {h : HI} {Q : Int → HI → Prop} {x1 : Int} (hn : 144 ≤ ζ.2.2.2.2) (w : RtI l D mX12_isIn (zz ζ) [aI x1, aI 0, aI ((h 99 11) - 1)] h (fun r1 h1 => (r1 = 0 ∨ r1 = 1) ∧ Q r1 h1)) : RtI l (D + 1) mX12_isCell (zz ζ) [aP 97, aI x1] h Q := by
  refine RtI.of 0 pn_X12 [aP 97, aI x1] rfl rfl ?_
  refine g_iload_n dX12_isCell_0 rfl ?_
  refine g_iconst dX12_isCell_1 ?_
  refine g_aload_n dX12_isCell_2 rfl ?_
  refine g_getR dX12_isCell_3 fl_X12_33 sh_97 (al_97 hn) (fun _ _ _ => rfl) rf_97_6 ?_
  refine g_bipush dX12_isCell_6 rfl ?_
  refine g_iald dX12_isCell_8 sh_99 (al_99 hn) (Nat.le_of_ble_eq_true rfl) (by decide) ?_
  refine g_iconst dX12_isCell_9 ?_
  refine g_isub dX12_isCell_10 ?_
  refine g_callSI (n := 3) (As := [aI x1, aI 0, aI ((h 99 11) - 1)]) (st := []) dX12_isCell_11 ml_X12_262 rfl rfl (Nat.le_of_ble_eq_true rfl) rfl (RtI.mono w (fun r1 h1 w => ?_))
  obtain ⟨o1, w⟩ := w
  exact g_retZ dX12_isCell_14 rfl o1 w
theorem e_X12_cell {l : Launch} {D : Nat} {ζ : ZP} {h : HI} {Q : Int → HI → Prop} {x1 : Int} (hn : 144 ≤ ζ.2.2.2.2) (w : (rg (h 99 11)) ∧ (if (h 99 11) = 60 then (Q (-1) (hu h 97 0 0)) else (RtI l D mX12_isIn (zz ζ) [aI x1, aI 0, aI ((h 99 1) - 1)] (hu h 97 0 0) (fun r1 h1 => (rg r1) ∧ (if ¬ r1 = 0 then ((0 ≤ (17 + (h1 99 11)) ∧ (17 + (h1 99 11)) < 2819) ∧ Q ((((hu h1 99 (17 + (h1 99 11)) x1) 99 11) + 1) - 1) (hu (hu h1 99 (17 + (h1 99 11)) x1) 99 11 (((hu h1 99 (17 + (h1 99 11)) x1) 99 11) + 1))) else (Q (-1) h1)))))) : RtI l (D + 1) mX12_cell (zz ζ) [aP 97, aI x1] h Q := by
  refine RtI.of 0 pn_X12 [aP 97, aI x1] rfl rfl ?_
  refine g_aload_n dX12_cell_0 rfl ?_
  refine g_iconst dX12_cell_1 ?_
  refine g_putI (J := 0) dX12_cell_2 fl_X12_1 sh_97 (al_97 hn) rfl rfl ?_
  refine g_aload_n dX12_cell_5 rfl ?_
  refine g_getR dX12_cell_6 fl_X12_33 sh_97 (al_97 hn) (fun _ _ _ => rfl) rf_97_6 ?_
  refine g_bipush dX12_cell_9 rfl ?_
  refine g_iald dX12_cell_11 sh_99 (al_99 hn) (Nat.le_of_ble_eq_true rfl) (by decide) ?_
  refine g_bipush dX12_cell_12 rfl ?_
  obtain ⟨o1, w⟩ := w
  refine g_cmp_eq (tgt := 33) dX12_cell_14 rfl o1 (by decide) ?_
  refine ite_imp (fun w => ?_) (fun w => ?_) w
  · refine g_iconst dX12_cell_33 ?_
    exact g_retI dX12_cell_34 rfl w
  · refine g_iload_n dX12_cell_17 rfl ?_
    refine g_iconst dX12_cell_18 ?_
    refine g_aload_n dX12_cell_19 rfl ?_
    refine g_getR dX12_cell_20 fl_X12_33 sh_97 (al_97 hn) (fun _ _ _ => rfl) rf_97_6 ?_
    refine g_iconst dX12_cell_23 ?_
    refine g_iald dX12_cell_24 sh_99 (al_99 hn) (Nat.le_of_ble_eq_true rfl) (by decide) ?_
    refine g_iconst dX12_cell_25 ?_
    refine g_isub dX12_cell_26 ?_
    refine g_callSI (n := 3) (As := [aI x1, aI 0, aI ((h 99 1) - 1)]) (st := []) dX12_cell_27 ml_X12_262 rfl rfl (Nat.le_of_ble_eq_true rfl) rfl (RtI.mono w (fun r1 h1 w => ?_))
    obtain ⟨o2, w⟩ := w
    refine g_if_ne (tgt := 35) dX12_cell_30 rfl o2 ?_
    refine ite_imp (fun w => ?_) (fun w => ?_) w
    · refine g_aload_n dX12_cell_35 rfl ?_
      refine g_getR dX12_cell_36 fl_X12_33 sh_97 (al_97 hn) (fun _ _ _ => rfl) rf_97_6 ?_
      refine g_bipush dX12_cell_39 rfl ?_
      refine g_aload_n dX12_cell_41 rfl ?_
      refine g_getR dX12_cell_42 fl_X12_33 sh_97 (al_97 hn) (fun _ _ _ => rfl) rf_97_6 ?_
      refine g_bipush dX12_cell_45 rfl ?_
      refine g_iald dX12_cell_47 sh_99 (al_99 hn) (Nat.le_of_ble_eq_true rfl) (by decide) ?_
      refine g_iadd dX12_cell_48 ?_
      refine g_iload_n dX12_cell_49 rfl ?_
      obtain ⟨o3, w⟩ := w
      refine g_iast dX12_cell_50 sh_99 (al_99 hn) (Nat.le_of_ble_eq_true rfl) o3 ?_
      refine g_aload_n dX12_cell_51 rfl ?_
      refine g_getR dX12_cell_52 fl_X12_33 sh_97 (al_97 hn) (fun _ _ _ => rfl) rf_97_6 ?_
      refine g_bipush dX12_cell_55 rfl ?_
      refine g_dup2 dX12_cell_57 rfl rfl ?_
      refine g_iald dX12_cell_58 sh_99 (al_99 hn) (Nat.le_of_ble_eq_true rfl) (by decide) ?_
      refine g_iconst dX12_cell_59 ?_
      refine g_iadd dX12_cell_60 ?_
      refine g_iast dX12_cell_61 sh_99 (al_99 hn) (Nat.le_of_ble_eq_true rfl) (by decide) ?_
      refine g_aload_n dX12_cell_62 rfl ?_
      refine g_getR dX12_cell_63 fl_X12_33 sh_97 (al_97 hn) (fun _ _ _ => rfl) rf_97_6 ?_
      refine g_bipush dX12_cell_66 rfl ?_
      refine g_iald dX12_cell_68 sh_99 (al_99 hn) (Nat.le_of_ble_eq_true rfl) (by decide) ?_
      refine g_iconst dX12_cell_69 ?_
      refine g_isub dX12_cell_70 ?_
      exact g_retI dX12_cell_71 rfl w
    · refine g_iconst dX12_cell_33 ?_
      exact g_retI dX12_cell_34 rfl w
theorem e_X12_read {l : Launch} {D : Nat} {ζ : ZP} {h : HI} {Q : Int → HI → Prop} {x1 x2 x3 x4 : Int} (hn : 144 ≤ ζ.2.2.2.2) (w : (rg (h 99 12)) ∧ (if (h 99 12) = 200 then (Q (-1) (hu h 97 0 0)) else (RtI l D mX12_isCell (zz ζ) [aP 97, aI x1] (hu h 97 0 0) (fun r1 h1 => (rg r1) ∧ (if r1 = 0 then (Q (-1) h1) else (RtI l D mX12_isIn (zz ζ) [aI x2, aI 0, aI ((h1 99 0) - 1)] h1 (fun r2 h2 => (rg r2) ∧ (if r2 = 0 then (Q (-1) h2) else (RtI l D mX12_isIn (zz ζ) [aI x3, aI 1, aI 400] h2 (fun r3 h3 => (rg r3) ∧ (if r3 = 0 then (Q (-1) h3) else (RtI l D mX12_isIn (zz ζ) [aI x4, aI 1, aI 999] h3 (fun r4 h4 => (rg r4) ∧ (if ¬ r4 = 0 then ((0 ≤ (77 + (4 * (h4 99 12))) ∧ (77 + (4 * (h4 99 12))) < 2819) ∧ (0 ≤ ((77 + (4 * (h4 99 12))) + 1) ∧ ((77 + (4 * (h4 99 12))) + 1) < 2819) ∧ (0 ≤ ((77 + (4 * (h4 99 12))) + 2) ∧ ((77 + (4 * (h4 99 12))) + 2) < 2819) ∧ (0 ≤ ((77 + (4 * (h4 99 12))) + 3) ∧ ((77 + (4 * (h4 99 12))) + 3) < 2819) ∧ Q ((((hu (hu (hu (hu h4 99 (77 + (4 * (h4 99 12))) x1) 99 ((77 + (4 * (h4 99 12))) + 1) x2) 99 ((77 + (4 * (h4 99 12))) + 2) x3) 99 ((77 + (4 * (h4 99 12))) + 3) x4) 99 12) + 1) - 1) (hu (hu (hu (hu (hu h4 99 (77 + (4 * (h4 99 12))) x1) 99 ((77 + (4 * (h4 99 12))) + 1) x2) 99 ((77 + (4 * (h4 99 12))) + 2) x3) 99 ((77 + (4 * (h4 99 12))) + 3) x4) 99 12 (((hu (hu (hu (hu h4 99 (77 + (4 * (h4 99 12))) x1) 99 ((77 + (4 * (h4 99 12))) + 1) x2) 99 ((77 + (4 * (h4 99 12))) + 2) x3) 99 ((77 + (4 * (h4 99 12))) + 3) x4) 99 12) + 1))) else (Q (-1) h4))))))))))))))) : RtI l (D + 1) mX12_read (zz ζ) [aP 97, aI x1, aI x2, aI x3, aI x4] h Q := by
  refine RtI.of 1 pn_X12 [aP 97, aI x1, aI x2, aI x3, aI x4, aU] rfl rfl ?_
  refine g_aload_n dX12_read_0 rfl ?_
  refine g_iconst dX12_read_1 ?_
  refine g_putI (J := 0) dX12_read_2 fl_X12_1 sh_97 (al_97 hn) rfl rfl ?_
  refine g_aload_n dX12_read_5 rfl ?_
  refine g_getR dX12_read_6 fl_X12_33 sh_97 (al_97 hn) (fun _ _ _ => rfl) rf_97_6 ?_
  refine g_bipush dX12_read_9 rfl ?_
  refine g_iald dX12_read_11 sh_99 (al_99 hn) (Nat.le_of_ble_eq_true rfl) (by decide) ?_
  refine g_sipush dX12_read_12 rfl ?_
  obtain ⟨o1, w⟩ := w
  refine g_cmp_eq (tgt := 65) dX12_read_15 rfl o1 (by decide) ?_
  refine ite_imp (fun w => ?_) (fun w => ?_) w
  · refine g_iconst dX12_read_65 ?_
    exact g_retI dX12_read_66 rfl w
  · refine g_aload_n dX12_read_18 rfl ?_
    refine g_iload_n dX12_read_19 rfl ?_
    refine g_callVI (n := 1) (As := [aI x1]) (st := []) dX12_read_20 ml_X12_304 sh_97 rfl (al_97 hn) rfl rfl (Nat.le_of_ble_eq_true rfl) (RtI.mono w (fun r1 h1 w => ?_))
    obtain ⟨o2, w⟩ := w
    refine g_if_eq (tgt := 65) dX12_read_23 rfl o2 ?_
    refine ite_imp (fun w => ?_) (fun w => ?_) w
    · refine g_iconst dX12_read_65 ?_
      exact g_retI dX12_read_66 rfl w
    · refine g_iload_n dX12_read_26 rfl ?_
      refine g_iconst dX12_read_27 ?_
      refine g_aload_n dX12_read_28 rfl ?_
      refine g_getR dX12_read_29 fl_X12_33 sh_97 (al_97 hn) (fun _ _ _ => rfl) rf_97_6 ?_
      refine g_iconst dX12_read_32 ?_
      refine g_iald dX12_read_33 sh_99 (al_99 hn) (Nat.le_of_ble_eq_true rfl) (by decide) ?_
      refine g_iconst dX12_read_34 ?_
      refine g_isub dX12_read_35 ?_
      refine g_callSI (n := 3) (As := [aI x2, aI 0, aI ((h1 99 0) - 1)]) (st := []) dX12_read_36 ml_X12_262 rfl rfl (Nat.le_of_ble_eq_true rfl) rfl (RtI.mono w (fun r2 h2 w => ?_))
      obtain ⟨o3, w⟩ := w
      refine g_if_eq (tgt := 65) dX12_read_39 rfl o3 ?_
      refine ite_imp (fun w => ?_) (fun w => ?_) w
      · refine g_iconst dX12_read_65 ?_
        exact g_retI dX12_read_66 rfl w
      · refine g_iload_n dX12_read_42 rfl ?_
        refine g_iconst dX12_read_43 ?_
        refine g_sipush dX12_read_44 rfl ?_
        refine g_callSI (n := 3) (As := [aI x3, aI 1, aI 400]) (st := []) dX12_read_47 ml_X12_262 rfl rfl (Nat.le_of_ble_eq_true rfl) rfl (RtI.mono w (fun r3 h3 w => ?_))
        obtain ⟨o4, w⟩ := w
        refine g_if_eq (tgt := 65) dX12_read_50 rfl o4 ?_
        refine ite_imp (fun w => ?_) (fun w => ?_) w
        · refine g_iconst dX12_read_65 ?_
          exact g_retI dX12_read_66 rfl w
        · refine g_iload dX12_read_53 rfl ?_
          refine g_iconst dX12_read_55 ?_
          refine g_sipush dX12_read_56 rfl ?_
          refine g_callSI (n := 3) (As := [aI x4, aI 1, aI 999]) (st := []) dX12_read_59 ml_X12_262 rfl rfl (Nat.le_of_ble_eq_true rfl) rfl (RtI.mono w (fun r4 h4 w => ?_))
          obtain ⟨o5, w⟩ := w
          refine g_if_ne (tgt := 67) dX12_read_62 rfl o5 ?_
          refine ite_imp (fun w => ?_) (fun w => ?_) w
          · refine g_bipush dX12_read_67 rfl ?_
            refine g_iconst dX12_read_69 ?_
            refine g_aload_n dX12_read_70 rfl ?_
            refine g_getR dX12_read_71 fl_X12_33 sh_97 (al_97 hn) (fun _ _ _ => rfl) rf_97_6 ?_
            refine g_bipush dX12_read_74 rfl ?_
            refine g_iald dX12_read_76 sh_99 (al_99 hn) (Nat.le_of_ble_eq_true rfl) (by decide) ?_
            refine g_imul dX12_read_77 ?_
            refine g_iadd dX12_read_78 ?_
            refine g_istore (ls' := [aP 97, aI x1, aI x2, aI x3, aI x4, aI (77 + (4 * (h4 99 12)))]) dX12_read_79 (Nat.le_of_ble_eq_true rfl) rfl rfl ?_
            refine g_aload_n dX12_read_81 rfl ?_
            refine g_getR dX12_read_82 fl_X12_33 sh_97 (al_97 hn) (fun _ _ _ => rfl) rf_97_6 ?_
            refine g_iload dX12_read_85 rfl ?_
            refine g_iload_n dX12_read_87 rfl ?_
            obtain ⟨o6, w⟩ := w
            refine g_iast dX12_read_88 sh_99 (al_99 hn) (Nat.le_of_ble_eq_true rfl) o6 ?_
            refine g_aload_n dX12_read_89 rfl ?_
            refine g_getR dX12_read_90 fl_X12_33 sh_97 (al_97 hn) (fun _ _ _ => rfl) rf_97_6 ?_
            refine g_iload dX12_read_93 rfl ?_
            refine g_iconst dX12_read_95 ?_
            refine g_iadd dX12_read_96 ?_
            refine g_iload_n dX12_read_97 rfl ?_
            obtain ⟨o7, w⟩ := w
            refine g_iast dX12_read_98 sh_99 (al_99 hn) (Nat.le_of_ble_eq_true rfl) o7 ?_
            refine g_aload_n dX12_read_99 rfl ?_
            refine g_getR dX12_read_100 fl_X12_33 sh_97 (al_97 hn) (fun _ _ _ => rfl) rf_97_6 ?_
            refine g_iload dX12_read_103 rfl ?_
            refine g_iconst dX12_read_105 ?_
            refine g_iadd dX12_read_106 ?_
            refine g_iload_n dX12_read_107 rfl ?_
            obtain ⟨o8, w⟩ := w
            refine g_iast dX12_read_108 sh_99 (al_99 hn) (Nat.le_of_ble_eq_true rfl) o8 ?_
            refine g_aload_n dX12_read_109 rfl ?_
            refine g_getR dX12_read_110 fl_X12_33 sh_97 (al_97 hn) (fun _ _ _ => rfl) rf_97_6 ?_
            refine g_iload dX12_read_113 rfl ?_
            refine g_iconst dX12_read_115 ?_
            refine g_iadd dX12_read_116 ?_
            refine g_iload dX12_read_117 rfl ?_
            obtain ⟨o9, w⟩ := w
            refine g_iast dX12_read_119 sh_99 (al_99 hn) (Nat.le_of_ble_eq_true rfl) o9 ?_
            refine g_aload_n dX12_read_120 rfl ?_
            refine g_getR dX12_read_121 fl_X12_33 sh_97 (al_97 hn) (fun _ _ _ => rfl) rf_97_6 ?_
            refine g_bipush dX12_read_124 rfl ?_
            refine g_dup2 dX12_read_126 rfl rfl ?_
            refine g_iald dX12_read_127 sh_99 (al_99 hn) (Nat.le_of_ble_eq_true rfl) (by decide) ?_
            refine g_iconst dX12_read_128 ?_
            refine g_iadd dX12_read_129 ?_
            refine g_iast dX12_read_130 sh_99 (al_99 hn) (Nat.le_of_ble_eq_true rfl) (by decide) ?_
            refine g_aload_n dX12_read_131 rfl ?_
            refine g_getR dX12_read_132 fl_X12_33 sh_97 (al_97 hn) (fun _ _ _ => rfl) rf_97_6 ?_
            refine g_bipush dX12_read_135 rfl ?_
            refine g_iald dX12_read_137 sh_99 (al_99 hn) (Nat.le_of_ble_eq_true rfl) (by decide) ?_
            refine g_iconst dX12_read_138 ?_
            refine g_isub dX12_read_139 ?_
            exact g_retI dX12_read_140 rfl w
          · refine g_iconst dX12_read_65 ?_
            exact g_retI dX12_read_66 rfl w
theorem b_X12_restAhead_4 {l : Launch} {D : Nat} {ζ : ZP} {h : HI} {Q : Int → HI → Prop} {x1 x3 : Int} (hn : 144 ≤ ζ.2.2.2.2) (w : (rg x3) ∧ (if x3 < 0 then (Q (-1) h) else ((0 ≤ (877 + (4 * x3)) ∧ (877 + (4 * x3)) < 2819) ∧ (rg (h 99 (877 + (4 * x3)))) ∧ (rg x1) ∧ (if ¬ (h 99 (877 + (4 * x3))) = x1 then (G l (D + 1) 0 0 mX12_restAhead (zz ζ) 4 [aP 97, aI x1, aU, aI (x3 + (-1))] [] h (qI (zz ζ) Q)) else (Q x3 h))))) : G l (D + 1) 0 0 mX12_restAhead (zz ζ) 4 [aP 97, aI x1, aU, aI x3] [] h (qI (zz ζ) Q) := by
  refine g_iload_n dX12_restAhead_4 rfl ?_
  obtain ⟨o1, w⟩ := w
  refine g_if_lt (tgt := 32) dX12_restAhead_5 rfl o1 ?_
  refine ite_imp (fun w => ?_) (fun w => ?_) w
  · refine g_iconst dX12_restAhead_32 ?_
    exact g_retI dX12_restAhead_33 rfl w
  · refine g_aload_n dX12_restAhead_8 rfl ?_
    refine g_getR dX12_restAhead_9 fl_X12_33 sh_97 (al_97 hn) (fun _ _ _ => rfl) rf_97_6 ?_
    refine g_sipush dX12_restAhead_12 rfl ?_
    refine g_iconst dX12_restAhead_15 ?_
    refine g_iload_n dX12_restAhead_16 rfl ?_
    refine g_imul dX12_restAhead_17 ?_
    refine g_iadd dX12_restAhead_18 ?_
    obtain ⟨o2, w⟩ := w
    refine g_iald dX12_restAhead_19 sh_99 (al_99 hn) (Nat.le_of_ble_eq_true rfl) o2 ?_
    refine g_iload_n dX12_restAhead_20 rfl ?_
    obtain ⟨o3, w⟩ := w
    obtain ⟨o4, w⟩ := w
    refine g_cmp_ne (tgt := 26) dX12_restAhead_21 rfl o3 o4 ?_
    refine ite_imp (fun w => ?_) (fun w => ?_) w
    · refine g_iinc (ls' := [aP 97, aI x1, aU, aI (x3 + (-1))]) dX12_restAhead_26 rfl (Nat.le_of_ble_eq_true rfl) rfl rfl ?_
      refine g_goto (tgt := 4) dX12_restAhead_29 rfl ?_
      exact g_sub (ls' := [aP 97, aI x1, aU, aI (x3 + (-1))]) ⟨Or.inr rfl, Or.inr rfl, Or.inl rfl, Or.inr rfl, trivial⟩ w
    · refine g_iload_n dX12_restAhead_24 rfl ?_
      exact g_retI dX12_restAhead_25 rfl w
theorem e_X12_restAhead {l : Launch} {D : Nat} {ζ : ZP} {h : HI} {Q : Int → HI → Prop} {x1 x2 : Int} (hn : 144 ≤ ζ.2.2.2.2) (w : G l (D + 1) 0 0 mX12_restAhead (zz ζ) 4 [aP 97, aI x1, aU, aI (x2 - 1)] [] h (qI (zz ζ) Q)) : RtI l (D + 1) mX12_restAhead (zz ζ) [aP 97, aI x1, aI x2] h Q := by
  refine RtI.of 1 pn_X12 [aP 97, aI x1, aI x2, aU] rfl rfl ?_
  refine g_iload_n dX12_restAhead_0 rfl ?_
  refine g_iconst dX12_restAhead_1 ?_
  refine g_isub dX12_restAhead_2 ?_
  refine g_istore_n (ls' := [aP 97, aI x1, aI x2, aI (x2 - 1)]) dX12_restAhead_3 (Nat.le_of_ble_eq_true rfl) rfl rfl ?_
  exact g_sub (ls' := [aP 97, aI x1, aU, aI (x2 - 1)]) ⟨Or.inr rfl, Or.inr rfl, Or.inl rfl, Or.inr rfl, trivial⟩ w
theorem b_X12_rest_100 {l : Launch} {D : Nat} {ζ : ZP} {h : HI} {Q : Int → HI → Prop} {x1 x2 x3 x4 : Int} (hn : 144 ≤ ζ.2.2.2.2) (w : (0 ≤ (877 + (4 * (h 99 13))) ∧ (877 + (4 * (h 99 13))) < 2819) ∧ (0 ≤ ((877 + (4 * (h 99 13))) + 1) ∧ ((877 + (4 * (h 99 13))) + 1) < 2819) ∧ (0 ≤ ((877 + (4 * (h 99 13))) + 2) ∧ ((877 + (4 * (h 99 13))) + 2) < 2819) ∧ (0 ≤ ((877 + (4 * (h 99 13))) + 3) ∧ ((877 + (4 * (h 99 13))) + 3) < 2819) ∧ Q ((((hu (hu (hu (hu h 99 (877 + (4 * (h 99 13))) x1) 99 ((877 + (4 * (h 99 13))) + 1) x2) 99 ((877 + (4 * (h 99 13))) + 2) x3) 99 ((877 + (4 * (h 99 13))) + 3) x4) 99 13) + 1) - 1) (hu (hu (hu (hu (hu h 99 (877 + (4 * (h 99 13))) x1) 99 ((877 + (4 * (h 99 13))) + 1) x2) 99 ((877 + (4 * (h 99 13))) + 2) x3) 99 ((877 + (4 * (h 99 13))) + 3) x4) 99 13 (((hu (hu (hu (hu h 99 (877 + (4 * (h 99 13))) x1) 99 ((877 + (4 * (h 99 13))) + 1) x2) 99 ((877 + (4 * (h 99 13))) + 2) x3) 99 ((877 + (4 * (h 99 13))) + 3) x4) 99 13) + 1))) : G l (D + 1) 0 0 mX12_rest (zz ζ) 100 [aP 97, aI x1, aI x2, aI x3, aI x4, aU, aU] [] h (qI (zz ζ) Q) := by
  refine g_sipush dX12_rest_100 rfl ?_
  refine g_iconst dX12_rest_103 ?_
  refine g_aload_n dX12_rest_104 rfl ?_
  refine g_getR dX12_rest_105 fl_X12_33 sh_97 (al_97 hn) (fun _ _ _ => rfl) rf_97_6 ?_
  refine g_bipush dX12_rest_108 rfl ?_
  refine g_iald dX12_rest_110 sh_99 (al_99 hn) (Nat.le_of_ble_eq_true rfl) (by decide) ?_
  refine g_imul dX12_rest_111 ?_
  refine g_iadd dX12_rest_112 ?_
  refine g_istore (ls' := [aP 97, aI x1, aI x2, aI x3, aI x4, aU, aI (877 + (4 * (h 99 13)))]) dX12_rest_113 (Nat.le_of_ble_eq_true rfl) rfl rfl ?_
  refine g_aload_n dX12_rest_115 rfl ?_
  refine g_getR dX12_rest_116 fl_X12_33 sh_97 (al_97 hn) (fun _ _ _ => rfl) rf_97_6 ?_
  refine g_iload dX12_rest_119 rfl ?_
  refine g_iload_n dX12_rest_121 rfl ?_
  obtain ⟨o1, w⟩ := w
  refine g_iast dX12_rest_122 sh_99 (al_99 hn) (Nat.le_of_ble_eq_true rfl) o1 ?_
  refine g_aload_n dX12_rest_123 rfl ?_
  refine g_getR dX12_rest_124 fl_X12_33 sh_97 (al_97 hn) (fun _ _ _ => rfl) rf_97_6 ?_
  refine g_iload dX12_rest_127 rfl ?_
  refine g_iconst dX12_rest_129 ?_
  refine g_iadd dX12_rest_130 ?_
  refine g_iload_n dX12_rest_131 rfl ?_
  obtain ⟨o2, w⟩ := w
  refine g_iast dX12_rest_132 sh_99 (al_99 hn) (Nat.le_of_ble_eq_true rfl) o2 ?_
  refine g_aload_n dX12_rest_133 rfl ?_
  refine g_getR dX12_rest_134 fl_X12_33 sh_97 (al_97 hn) (fun _ _ _ => rfl) rf_97_6 ?_
  refine g_iload dX12_rest_137 rfl ?_
  refine g_iconst dX12_rest_139 ?_
  refine g_iadd dX12_rest_140 ?_
  refine g_iload_n dX12_rest_141 rfl ?_
  obtain ⟨o3, w⟩ := w
  refine g_iast dX12_rest_142 sh_99 (al_99 hn) (Nat.le_of_ble_eq_true rfl) o3 ?_
  refine g_aload_n dX12_rest_143 rfl ?_
  refine g_getR dX12_rest_144 fl_X12_33 sh_97 (al_97 hn) (fun _ _ _ => rfl) rf_97_6 ?_
  refine g_iload dX12_rest_147 rfl ?_
  refine g_iconst dX12_rest_149 ?_
  refine g_iadd dX12_rest_150 ?_
  refine g_iload dX12_rest_151 rfl ?_
  obtain ⟨o4, w⟩ := w
  refine g_iast dX12_rest_153 sh_99 (al_99 hn) (Nat.le_of_ble_eq_true rfl) o4 ?_
  refine g_aload_n dX12_rest_154 rfl ?_
  refine g_getR dX12_rest_155 fl_X12_33 sh_97 (al_97 hn) (fun _ _ _ => rfl) rf_97_6 ?_
  refine g_bipush dX12_rest_158 rfl ?_
  refine g_dup2 dX12_rest_160 rfl rfl ?_
  refine g_iald dX12_rest_161 sh_99 (al_99 hn) (Nat.le_of_ble_eq_true rfl) (by decide) ?_
  refine g_iconst dX12_rest_162 ?_
  refine g_iadd dX12_rest_163 ?_
  refine g_iast dX12_rest_164 sh_99 (al_99 hn) (Nat.le_of_ble_eq_true rfl) (by decide) ?_
  refine g_aload_n dX12_rest_165 rfl ?_
  refine g_getR dX12_rest_166 fl_X12_33 sh_97 (al_97 hn) (fun _ _ _ => rfl) rf_97_6 ?_
  refine g_bipush dX12_rest_169 rfl ?_
  refine g_iald dX12_rest_171 sh_99 (al_99 hn) (Nat.le_of_ble_eq_true rfl) (by decide) ?_
  refine g_iconst dX12_rest_172 ?_
  refine g_isub dX12_rest_173 ?_
  exact g_retI dX12_rest_174 rfl w
theorem e_X12_rest {l : Launch} {D : Nat} {ζ : ZP} {h : HI} {Q : Int → HI → Prop} {x1 x2 x3 x4 : Int} (hn : 144 ≤ ζ.2.2.2.2) (w : (rg (h 99 13)) ∧ (if (h 99 13) = 200 then (Q (-1) (hu h 97 0 0)) else (RtI l D mX12_isCell (zz ζ) [aP 97, aI x1] (hu h 97 0 0) (fun r1 h1 => (rg r1) ∧ (if r1 = 0 then (Q (-1) h1) else (RtI l D mX12_isIn (zz ζ) [aI x2, aI 0, aI 99] h1 (fun r2 h2 => (rg r2) ∧ (if r2 = 0 then (Q (-1) h2) else (RtI l D mX12_isIn (zz ζ) [aI x3, aI 0, aI 4200] h2 (fun r3 h3 => (rg r3) ∧ (if r3 = 0 then (Q (-1) h3) else (RtI l D mX12_isIn (zz ζ) [aI x4, aI 0, aI 99] h3 (fun r4 h4 => (rg r4) ∧ (if ¬ r4 = 0 then (RtI l D mX12_restAhead (zz ζ) [aP 97, aI x1, aI (h4 99 13)] h4 (fun r5 h5 => (rg r5) ∧ (if r5 < 0 then (G l (D + 1) 0 0 mX12_rest (zz ζ) 100 [aP 97, aI x1, aI x2, aI x3, aI x4, aU, aU] [] h5 (qI (zz ζ) Q)) else ((0 ≤ ((877 + (4 * r5)) + 1) ∧ ((877 + (4 * r5)) + 1) < 2819) ∧ (rg x2) ∧ (rg (h5 99 ((877 + (4 * r5)) + 1))) ∧ (if (h5 99 ((877 + (4 * r5)) + 1)) < x2 then (G l (D + 1) 0 0 mX12_rest (zz ζ) 100 [aP 97, aI x1, aI x2, aI x3, aI x4, aU, aU] [] h5 (qI (zz ζ) Q)) else (Q (-1) h5)))))) else (Q (-1) h4))))))))))))))) : RtI l (D + 1) mX12_rest (zz ζ) [aP 97, aI x1, aI x2, aI x3, aI x4] h Q := by
  refine RtI.of 2 pn_X12 [aP 97, aI x1, aI x2, aI x3, aI x4, aU, aU] rfl rfl ?_
  refine g_aload_n dX12_rest_0 rfl ?_
  refine g_iconst dX12_rest_1 ?_
  refine g_putI (J := 0) dX12_rest_2 fl_X12_1 sh_97 (al_97 hn) rfl rfl ?_
  refine g_aload_n dX12_rest_5 rfl ?_
  refine g_getR dX12_rest_6 fl_X12_33 sh_97 (al_97 hn) (fun _ _ _ => rfl) rf_97_6 ?_
  refine g_bipush dX12_rest_9 rfl ?_
  refine g_iald dX12_rest_11 sh_99 (al_99 hn) (Nat.le_of_ble_eq_true rfl) (by decide) ?_
  refine g_sipush dX12_rest_12 rfl ?_
  obtain ⟨o1, w⟩ := w
  refine g_cmp_eq (tgt := 58) dX12_rest_15 rfl o1 (by decide) ?_
  refine ite_imp (fun w => ?_) (fun w => ?_) w
  · refine g_iconst dX12_rest_58 ?_
    exact g_retI dX12_rest_59 rfl w
  · refine g_aload_n dX12_rest_18 rfl ?_
    refine g_iload_n dX12_rest_19 rfl ?_
    refine g_callVI (n := 1) (As := [aI x1]) (st := []) dX12_rest_20 ml_X12_304 sh_97 rfl (al_97 hn) rfl rfl (Nat.le_of_ble_eq_true rfl) (RtI.mono w (fun r1 h1 w => ?_))
    obtain ⟨o2, w⟩ := w
    refine g_if_eq (tgt := 58) dX12_rest_23 rfl o2 ?_
    refine ite_imp (fun w => ?_) (fun w => ?_) w
    · refine g_iconst dX12_rest_58 ?_
      exact g_retI dX12_rest_59 rfl w
    · refine g_iload_n dX12_rest_26 rfl ?_
      refine g_iconst dX12_rest_27 ?_
      refine g_bipush dX12_rest_28 rfl ?_
      refine g_callSI (n := 3) (As := [aI x2, aI 0, aI 99]) (st := []) dX12_rest_30 ml_X12_262 rfl rfl (Nat.le_of_ble_eq_true rfl) rfl (RtI.mono w (fun r2 h2 w => ?_))
      obtain ⟨o3, w⟩ := w
      refine g_if_eq (tgt := 58) dX12_rest_33 rfl o3 ?_
      refine ite_imp (fun w => ?_) (fun w => ?_) w
      · refine g_iconst dX12_rest_58 ?_
        exact g_retI dX12_rest_59 rfl w
      · refine g_iload_n dX12_rest_36 rfl ?_
        refine g_iconst dX12_rest_37 ?_
        refine g_sipush dX12_rest_38 rfl ?_
        refine g_callSI (n := 3) (As := [aI x3, aI 0, aI 4200]) (st := []) dX12_rest_41 ml_X12_262 rfl rfl (Nat.le_of_ble_eq_true rfl) rfl (RtI.mono w (fun r3 h3 w => ?_))
        obtain ⟨o4, w⟩ := w
        refine g_if_eq (tgt := 58) dX12_rest_44 rfl o4 ?_
        refine ite_imp (fun w => ?_) (fun w => ?_) w
        · refine g_iconst dX12_rest_58 ?_
          exact g_retI dX12_rest_59 rfl w
        · refine g_iload dX12_rest_47 rfl ?_
          refine g_iconst dX12_rest_49 ?_
          refine g_bipush dX12_rest_50 rfl ?_
          refine g_callSI (n := 3) (As := [aI x4, aI 0, aI 99]) (st := []) dX12_rest_52 ml_X12_262 rfl rfl (Nat.le_of_ble_eq_true rfl) rfl (RtI.mono w (fun r4 h4 w => ?_))
          obtain ⟨o5, w⟩ := w
          refine g_if_ne (tgt := 60) dX12_rest_55 rfl o5 ?_
          refine ite_imp (fun w => ?_) (fun w => ?_) w
          · refine g_aload_n dX12_rest_60 rfl ?_
            refine g_iload_n dX12_rest_61 rfl ?_
            refine g_aload_n dX12_rest_62 rfl ?_
            refine g_getR dX12_rest_63 fl_X12_33 sh_97 (al_97 hn) (fun _ _ _ => rfl) rf_97_6 ?_
            refine g_bipush dX12_rest_66 rfl ?_
            refine g_iald dX12_rest_68 sh_99 (al_99 hn) (Nat.le_of_ble_eq_true rfl) (by decide) ?_
            refine g_callVI (n := 2) (As := [aI x1, aI (h4 99 13)]) (st := []) dX12_rest_69 ml_X12_307 sh_97 rfl (al_97 hn) rfl rfl (Nat.le_of_ble_eq_true rfl) (RtI.mono w (fun r5 h5 w => ?_))
            refine g_istore (ls' := [aP 97, aI x1, aI x2, aI x3, aI x4, aI r5, aU]) dX12_rest_72 (Nat.le_of_ble_eq_true rfl) rfl rfl ?_
            refine g_iload dX12_rest_74 rfl ?_
            obtain ⟨o6, w⟩ := w
            refine g_if_lt (tgt := 100) dX12_rest_76 rfl o6 ?_
            refine ite_imp (fun w => ?_) (fun w => ?_) w
            · exact g_sub (ls' := [aP 97, aI x1, aI x2, aI x3, aI x4, aU, aU]) ⟨Or.inr rfl, Or.inr rfl, Or.inr rfl, Or.inr rfl, Or.inr rfl, Or.inl rfl, Or.inl rfl, trivial⟩ w
            · refine g_iload_n dX12_rest_79 rfl ?_
              refine g_aload_n dX12_rest_80 rfl ?_
              refine g_getR dX12_rest_81 fl_X12_33 sh_97 (al_97 hn) (fun _ _ _ => rfl) rf_97_6 ?_
              refine g_sipush dX12_rest_84 rfl ?_
              refine g_iconst dX12_rest_87 ?_
              refine g_iload dX12_rest_88 rfl ?_
              refine g_imul dX12_rest_90 ?_
              refine g_iadd dX12_rest_91 ?_
              refine g_iconst dX12_rest_92 ?_
              refine g_iadd dX12_rest_93 ?_
              obtain ⟨o7, w⟩ := w
              refine g_iald dX12_rest_94 sh_99 (al_99 hn) (Nat.le_of_ble_eq_true rfl) o7 ?_
              obtain ⟨o8, w⟩ := w
              obtain ⟨o9, w⟩ := w
              refine g_cmp_gt (tgt := 100) dX12_rest_95 rfl o8 o9 ?_
              refine ite_imp (fun w => ?_) (fun w => ?_) w
              · exact g_sub (ls' := [aP 97, aI x1, aI x2, aI x3, aI x4, aU, aU]) ⟨Or.inr rfl, Or.inr rfl, Or.inr rfl, Or.inr rfl, Or.inr rfl, Or.inl rfl, Or.inl rfl, trivial⟩ w
              · refine g_iconst dX12_rest_98 ?_
                exact g_retI dX12_rest_99 rfl w
          · refine g_iconst dX12_rest_58 ?_
            exact g_retI dX12_rest_59 rfl w
theorem b_X12_trueOf_16 {l : Launch} {D : Nat} {ζ : ZP} {h : HI} {Q : HI → Prop} {x1 x2 x3 x4 x5 x6 x7 : Int} (hn : 144 ≤ ζ.2.2.2.2) (w : (rg x7) ∧ (rg (h 99 12)) ∧ (if (h 99 12) ≤ x7 then ((0 ≤ x1 ∧ x1 < 60) ∧ (rg x4) ∧ (if ¬ x4 = 0 then (G l (D + 1) 0 0 mX12_trueOf (zz ζ) 194 [aP 97, aI x1, aI x2, aI x3, aI x4, aU, aU, aU, aU, aU, aU] [aI (x6 - x5), aI x1, aP 108] (hu h 109 x1 x4) (qV (zz ζ) Q)) else (G l (D + 1) 0 0 mX12_trueOf (zz ζ) 194 [aP 97, aI x1, aI x2, aI x3, aI x4, aU, aU, aU, aU, aU, aU] [aI (-1), aI x1, aP 108] (hu h 109 x1 x4) (qV (zz ζ) Q)))) else ((0 ≤ ((77 + (4 * x7)) + 1) ∧ ((77 + (4 * x7)) + 1) < 2819) ∧ (0 ≤ (77 + (4 * x7)) ∧ (77 + (4 * x7)) < 2819) ∧ (rg (h 99 (77 + (4 * x7)))) ∧ (rg x1) ∧ (if ¬ (h 99 (77 + (4 * x7))) = x1 then (G l (D + 1) 0 0 mX12_trueOf (zz ζ) 16 [aP 97, aI x1, aI x2, aI x3, aI x4, aI x5, aI x6, aI (x7 + 1), aU, aU, aU] [] h (qV (zz ζ) Q)) else ((0 ≤ (h 99 ((77 + (4 * x7)) + 1)) ∧ (h 99 ((77 + (4 * x7)) + 1)) < 6) ∧ (rg (h 103 (h 99 ((77 + (4 * x7)) + 1)))) ∧ (if ¬ (h 103 (h 99 ((77 + (4 * x7)) + 1))) = 0 then ((0 ≤ ((77 + (4 * x7)) + 2) ∧ ((77 + (4 * x7)) + 2) < 2819) ∧ (rg x4) ∧ (if x4 = 0 then (G l (D + 1) 0 0 mX12_trueOf (zz ζ) 110 [aP 97, aI x1, aI x2, aI x3, aI x4, aU, aI x6, aI x7, aI (77 + (4 * x7)), aI (h 99 ((77 + (4 * x7)) + 1)), aI ((h 99 ((77 + (4 * x7)) + 2)) - (h 104 (h 99 ((77 + (4 * x7)) + 1))))] [aI ((h 99 ((77 + (4 * x7)) + 2)) - (h 104 (h 99 ((77 + (4 * x7)) + 1))))] h (qV (zz ζ) Q)) else ((rg ((h 99 ((77 + (4 * x7)) + 2)) - (h 104 (h 99 ((77 + (4 * x7)) + 1))))) ∧ (rg x5) ∧ (if x5 ≤ ((h 99 ((77 + (4 * x7)) + 2)) - (h 104 (h 99 ((77 + (4 * x7)) + 1)))) then (G l (D + 1) 0 0 mX12_trueOf (zz ζ) 110 [aP 97, aI x1, aI x2, aI x3, aI x4, aU, aI x6, aI x7, aI (77 + (4 * x7)), aI (h 99 ((77 + (4 * x7)) + 1)), aI ((h 99 ((77 + (4 * x7)) + 2)) - (h 104 (h 99 ((77 + (4 * x7)) + 1))))] [aI x5] h (qV (zz ζ) Q)) else (G l (D + 1) 0 0 mX12_trueOf (zz ζ) 110 [aP 97, aI x1, aI x2, aI x3, aI x4, aU, aI x6, aI x7, aI (77 + (4 * x7)), aI (h 99 ((77 + (4 * x7)) + 1)), aI ((h 99 ((77 + (4 * x7)) + 2)) - (h 104 (h 99 ((77 + (4 * x7)) + 1))))] [aI ((h 99 ((77 + (4 * x7)) + 2)) - (h 104 (h 99 ((77 + (4 * x7)) + 1))))] h (qV (zz ζ) Q)))))) else (G l (D + 1) 0 0 mX12_trueOf (zz ζ) 16 [aP 97, aI x1, aI x2, aI x3, aI x4, aI x5, aI x6, aI (x7 + 1), aU, aU, aU] [] h (qV (zz ζ) Q)))))))) : G l (D + 1) 0 0 mX12_trueOf (zz ζ) 16 [aP 97, aI x1, aI x2, aI x3, aI x4, aI x5, aI x6, aI x7, aU, aU, aU] [] h (qV (zz ζ) Q) := by
  refine g_iload dX12_trueOf_16 rfl ?_
  refine g_aload_n dX12_trueOf_18 rfl ?_
  refine g_getR dX12_trueOf_19 fl_X12_33 sh_97 (al_97 hn) (fun _ _ _ => rfl) rf_97_6 ?_
  refine g_bipush dX12_trueOf_22 rfl ?_
  refine g_iald dX12_trueOf_24 sh_99 (al_99 hn) (Nat.le_of_ble_eq_true rfl) (by decide) ?_
  obtain ⟨o1, w⟩ := w
  obtain ⟨o2, w⟩ := w
  refine g_cmp_ge (tgt := 167) dX12_trueOf_25 rfl o1 o2 ?_
  refine ite_imp (fun w => ?_) (fun w => ?_) w
  · refine g_aload_n dX12_trueOf_167 rfl ?_
    refine g_getR dX12_trueOf_168 fl_X12_66 sh_97 (al_97 hn) (fun _ _ _ => rfl) rf_97_26 ?_
    refine g_iload_n dX12_trueOf_171 rfl ?_
    refine g_iload dX12_trueOf_172 rfl ?_
    obtain ⟨o3, w⟩ := w
    refine g_iast dX12_trueOf_174 sh_109 (al_109 hn) (Nat.le_of_ble_eq_true rfl) o3 ?_
    refine g_aload_n dX12_trueOf_175 rfl ?_
    refine g_getR dX12_trueOf_176 fl_X12_63 sh_97 (al_97 hn) (fun _ _ _ => rfl) rf_97_25 ?_
    refine g_iload_n dX12_trueOf_179 rfl ?_
    refine g_iload dX12_trueOf_180 rfl ?_
    obtain ⟨o4, w⟩ := w
    refine g_if_ne (tgt := 189) dX12_trueOf_182 rfl o4 ?_
    refine ite_imp (fun w => ?_) (fun w => ?_) w
    · refine g_iload dX12_trueOf_189 rfl ?_
      refine g_iload dX12_trueOf_191 rfl ?_
      refine g_isub dX12_trueOf_193 ?_
      exact g_sub (ls' := [aP 97, aI x1, aI x2, aI x3, aI x4, aU, aU, aU, aU, aU, aU]) ⟨Or.inr rfl, Or.inr rfl, Or.inr rfl, Or.inr rfl, Or.inr rfl, Or.inl rfl, Or.inl rfl, Or.inl rfl, Or.inl rfl, Or.inl rfl, Or.inl rfl, trivial⟩ w
    · refine g_iconst dX12_trueOf_185 ?_
      refine g_goto (tgt := 194) dX12_trueOf_186 rfl ?_
      exact g_sub (ls' := [aP 97, aI x1, aI x2, aI x3, aI x4, aU, aU, aU, aU, aU, aU]) ⟨Or.inr rfl, Or.inr rfl, Or.inr rfl, Or.inr rfl, Or.inr rfl, Or.inl rfl, Or.inl rfl, Or.inl rfl, Or.inl rfl, Or.inl rfl, Or.inl rfl, trivial⟩ w
  · refine g_bipush dX12_trueOf_28 rfl ?_
    refine g_iconst dX12_trueOf_30 ?_
    refine g_iload dX12_trueOf_31 rfl ?_
    refine g_imul dX12_trueOf_33 ?_
    refine g_iadd dX12_trueOf_34 ?_
    refine g_istore (ls' := [aP 97, aI x1, aI x2, aI x3, aI x4, aI x5, aI x6, aI x7, aI (77 + (4 * x7)), aU, aU]) dX12_trueOf_35 (Nat.le_of_ble_eq_true rfl) rfl rfl ?_
    refine g_aload_n dX12_trueOf_37 rfl ?_
    refine g_getR dX12_trueOf_38 fl_X12_33 sh_97 (al_97 hn) (fun _ _ _ => rfl) rf_97_6 ?_
    refine g_iload dX12_trueOf_41 rfl ?_
    refine g_iconst dX12_trueOf_43 ?_
    refine g_iadd dX12_trueOf_44 ?_
    obtain ⟨o5, w⟩ := w
    refine g_iald dX12_trueOf_45 sh_99 (al_99 hn) (Nat.le_of_ble_eq_true rfl) o5 ?_
    refine g_istore (ls' := [aP 97, aI x1, aI x2, aI x3, aI x4, aI x5, aI x6, aI x7, aI (77 + (4 * x7)), aI (h 99 ((77 + (4 * x7)) + 1)), aU]) dX12_trueOf_46 (Nat.le_of_ble_eq_true rfl) rfl rfl ?_
    refine g_aload_n dX12_trueOf_48 rfl ?_
    refine g_getR dX12_trueOf_49 fl_X12_33 sh_97 (al_97 hn) (fun _ _ _ => rfl) rf_97_6 ?_
    refine g_iload dX12_trueOf_52 rfl ?_
    obtain ⟨o6, w⟩ := w
    refine g_iald dX12_trueOf_54 sh_99 (al_99 hn) (Nat.le_of_ble_eq_true rfl) o6 ?_
    refine g_iload_n dX12_trueOf_55 rfl ?_
    obtain ⟨o7, w⟩ := w
    obtain ⟨o8, w⟩ := w
    refine g_cmp_ne (tgt := 161) dX12_trueOf_56 rfl o7 o8 ?_
    refine ite_imp (fun w => ?_) (fun w => ?_) w
    · refine g_iinc (ls' := [aP 97, aI x1, aI x2, aI x3, aI x4, aI x5, aI x6, aI (x7 + 1), aI (77 + (4 * x7)), aI (h 99 ((77 + (4 * x7)) + 1)), aU]) dX12_trueOf_161 rfl (Nat.le_of_ble_eq_true rfl) rfl rfl ?_
      refine g_goto (tgt := 16) dX12_trueOf_164 rfl ?_
      exact g_sub (ls' := [aP 97, aI x1, aI x2, aI x3, aI x4, aI x5, aI x6, aI (x7 + 1), aU, aU, aU]) ⟨Or.inr rfl, Or.inr rfl, Or.inr rfl, Or.inr rfl, Or.inr rfl, Or.inr rfl, Or.inr rfl, Or.inr rfl, Or.inl rfl, Or.inl rfl, Or.inl rfl, trivial⟩ w
    · refine g_aload_n dX12_trueOf_59 rfl ?_
      refine g_getR dX12_trueOf_60 fl_X12_47 sh_97 (al_97 hn) (fun _ _ _ => rfl) rf_97_20 ?_
      refine g_iload dX12_trueOf_63 rfl ?_
      obtain ⟨o9, w⟩ := w
      refine g_zald dX12_trueOf_65 sh_103 (al_103 hn) (Nat.le_of_ble_eq_true rfl) o9 ?_
      obtain ⟨o10, w⟩ := w
      refine g_if_ne (tgt := 72) dX12_trueOf_66 rfl o10 ?_
      refine ite_imp (fun w => ?_) (fun w => ?_) w
      · refine g_aload_n dX12_trueOf_72 rfl ?_
        refine g_getR dX12_trueOf_73 fl_X12_33 sh_97 (al_97 hn) (fun _ _ _ => rfl) rf_97_6 ?_
        refine g_iload dX12_trueOf_76 rfl ?_
        refine g_iconst dX12_trueOf_78 ?_
        refine g_iadd dX12_trueOf_79 ?_
        obtain ⟨o11, w⟩ := w
        refine g_iald dX12_trueOf_80 sh_99 (al_99 hn) (Nat.le_of_ble_eq_true rfl) o11 ?_
        refine g_aload_n dX12_trueOf_81 rfl ?_
        refine g_getR dX12_trueOf_82 fl_X12_51 sh_97 (al_97 hn) (fun _ _ _ => rfl) rf_97_21 ?_
        refine g_iload dX12_trueOf_85 rfl ?_
        refine g_iald dX12_trueOf_87 sh_104 (al_104 hn) (Nat.le_of_ble_eq_true rfl) o9 ?_
        refine g_isub dX12_trueOf_88 ?_
        refine g_istore (ls' := [aP 97, aI x1, aI x2, aI x3, aI x4, aI x5, aI x6, aI x7, aI (77 + (4 * x7)), aI (h 99 ((77 + (4 * x7)) + 1)), aI ((h 99 ((77 + (4 * x7)) + 2)) - (h 104 (h 99 ((77 + (4 * x7)) + 1))))]) dX12_trueOf_89 (Nat.le_of_ble_eq_true rfl) rfl rfl ?_
        refine g_iload dX12_trueOf_91 rfl ?_
        obtain ⟨o12, w⟩ := w
        refine g_if_eq (tgt := 103) dX12_trueOf_93 rfl o12 ?_
        refine ite_imp (fun w => ?_) (fun w => ?_) w
        · refine g_iload dX12_trueOf_103 rfl ?_
          refine g_goto (tgt := 110) dX12_trueOf_105 rfl ?_
          exact g_sub (ls' := [aP 97, aI x1, aI x2, aI x3, aI x4, aU, aI x6, aI x7, aI (77 + (4 * x7)), aI (h 99 ((77 + (4 * x7)) + 1)), aI ((h 99 ((77 + (4 * x7)) + 2)) - (h 104 (h 99 ((77 + (4 * x7)) + 1))))]) ⟨Or.inr rfl, Or.inr rfl, Or.inr rfl, Or.inr rfl, Or.inr rfl, Or.inl rfl, Or.inr rfl, Or.inr rfl, Or.inr rfl, Or.inr rfl, Or.inr rfl, trivial⟩ w
        · refine g_iload dX12_trueOf_96 rfl ?_
          refine g_iload dX12_trueOf_98 rfl ?_
          obtain ⟨o13, w⟩ := w
          obtain ⟨o14, w⟩ := w
          refine g_cmp_ge (tgt := 108) dX12_trueOf_100 rfl o13 o14 ?_
          refine ite_imp (fun w => ?_) (fun w => ?_) w
          · refine g_iload dX12_trueOf_108 rfl ?_
            exact g_sub (ls' := [aP 97, aI x1, aI x2, aI x3, aI x4, aU, aI x6, aI x7, aI (77 + (4 * x7)), aI (h 99 ((77 + (4 * x7)) + 1)), aI ((h 99 ((77 + (4 * x7)) + 2)) - (h 104 (h 99 ((77 + (4 * x7)) + 1))))]) ⟨Or.inr rfl, Or.inr rfl, Or.inr rfl, Or.inr rfl, Or.inr rfl, Or.inl rfl, Or.inr rfl, Or.inr rfl, Or.inr rfl, Or.inr rfl, Or.inr rfl, trivial⟩ w
          · refine g_iload dX12_trueOf_103 rfl ?_
            refine g_goto (tgt := 110) dX12_trueOf_105 rfl ?_
            exact g_sub (ls' := [aP 97, aI x1, aI x2, aI x3, aI x4, aU, aI x6, aI x7, aI (77 + (4 * x7)), aI (h 99 ((77 + (4 * x7)) + 1)), aI ((h 99 ((77 + (4 * x7)) + 2)) - (h 104 (h 99 ((77 + (4 * x7)) + 1))))]) ⟨Or.inr rfl, Or.inr rfl, Or.inr rfl, Or.inr rfl, Or.inr rfl, Or.inl rfl, Or.inr rfl, Or.inr rfl, Or.inr rfl, Or.inr rfl, Or.inr rfl, trivial⟩ w
      · refine g_goto (tgt := 161) dX12_trueOf_69 rfl ?_
        refine g_iinc (ls' := [aP 97, aI x1, aI x2, aI x3, aI x4, aI x5, aI x6, aI (x7 + 1), aI (77 + (4 * x7)), aI (h 99 ((77 + (4 * x7)) + 1)), aU]) dX12_trueOf_161 rfl (Nat.le_of_ble_eq_true rfl) rfl rfl ?_
        refine g_goto (tgt := 16) dX12_trueOf_164 rfl ?_
        exact g_sub (ls' := [aP 97, aI x1, aI x2, aI x3, aI x4, aI x5, aI x6, aI (x7 + 1), aU, aU, aU]) ⟨Or.inr rfl, Or.inr rfl, Or.inr rfl, Or.inr rfl, Or.inr rfl, Or.inr rfl, Or.inr rfl, Or.inr rfl, Or.inl rfl, Or.inl rfl, Or.inl rfl, trivial⟩ w
theorem b_X12_trueOf_110 {l : Launch} {D : Nat} {ζ : ZP} {h : HI} {Q : HI → Prop} {s0 x1 x10 x2 x3 x4 x6 x7 x8 x9 : Int} (hn : 144 ≤ ζ.2.2.2.2) (w : (rg x4) ∧ (if x4 = 0 then ((0 ≤ (x8 + 3) ∧ (x8 + 3) < 2819) ∧ (0 ≤ x9 ∧ x9 < 6) ∧ G l (D + 1) 0 0 mX12_trueOf (zz ζ) 16 [aP 97, aI x1, aI (x2 + x10), aI (x3 + ((h 99 (x8 + 3)) - (h 105 x9))), aI (x4 + 1), aI s0, aI x10, aI (x7 + 1), aU, aU, aU] [] h (qV (zz ζ) Q)) else ((rg x10) ∧ (rg x6) ∧ (if x10 ≤ x6 then ((0 ≤ (x8 + 3) ∧ (x8 + 3) < 2819) ∧ (0 ≤ x9 ∧ x9 < 6) ∧ G l (D + 1) 0 0 mX12_trueOf (zz ζ) 16 [aP 97, aI x1, aI (x2 + x10), aI (x3 + ((h 99 (x8 + 3)) - (h 105 x9))), aI (x4 + 1), aI s0, aI x6, aI (x7 + 1), aU, aU, aU] [] h (qV (zz ζ) Q)) else ((0 ≤ (x8 + 3) ∧ (x8 + 3) < 2819) ∧ (0 ≤ x9 ∧ x9 < 6) ∧ G l (D + 1) 0 0 mX12_trueOf (zz ζ) 16 [aP 97, aI x1, aI (x2 + x10), aI (x3 + ((h 99 (x8 + 3)) - (h 105 x9))), aI (x4 + 1), aI s0, aI x10, aI (x7 + 1), aU, aU, aU] [] h (qV (zz ζ) Q)))))) : G l (D + 1) 0 0 mX12_trueOf (zz ζ) 110 [aP 97, aI x1, aI x2, aI x3, aI x4, aU, aI x6, aI x7, aI x8, aI x9, aI x10] [aI s0] h (qV (zz ζ) Q) := by
  refine g_istore (ls' := [aP 97, aI x1, aI x2, aI x3, aI x4, aI s0, aI x6, aI x7, aI x8, aI x9, aI x10]) dX12_trueOf_110 (Nat.le_of_ble_eq_true rfl) rfl rfl ?_
  refine g_iload dX12_trueOf_112 rfl ?_
  obtain ⟨o1, w⟩ := w
  refine g_if_eq (tgt := 124) dX12_trueOf_114 rfl o1 ?_
  refine ite_imp (fun w => ?_) (fun w => ?_) w
  · refine g_iload dX12_trueOf_124 rfl ?_
    refine g_goto (tgt := 131) dX12_trueOf_126 rfl ?_
    refine g_istore (ls' := [aP 97, aI x1, aI x2, aI x3, aI x4, aI s0, aI x10, aI x7, aI x8, aI x9, aI x10]) dX12_trueOf_131 (Nat.le_of_ble_eq_true rfl) rfl rfl ?_
    refine g_iload_n dX12_trueOf_133 rfl ?_
    refine g_iload dX12_trueOf_134 rfl ?_
    refine g_iadd dX12_trueOf_136 ?_
    refine g_istore_n (ls' := [aP 97, aI x1, aI (x2 + x10), aI x3, aI x4, aI s0, aI x10, aI x7, aI x8, aI x9, aI x10]) dX12_trueOf_137 (Nat.le_of_ble_eq_true rfl) rfl rfl ?_
    refine g_iload_n dX12_trueOf_138 rfl ?_
    refine g_aload_n dX12_trueOf_139 rfl ?_
    refine g_getR dX12_trueOf_140 fl_X12_33 sh_97 (al_97 hn) (fun _ _ _ => rfl) rf_97_6 ?_
    refine g_iload dX12_trueOf_143 rfl ?_
    refine g_iconst dX12_trueOf_145 ?_
    refine g_iadd dX12_trueOf_146 ?_
    obtain ⟨o2, w⟩ := w
    refine g_iald dX12_trueOf_147 sh_99 (al_99 hn) (Nat.le_of_ble_eq_true rfl) o2 ?_
    refine g_aload_n dX12_trueOf_148 rfl ?_
    refine g_getR dX12_trueOf_149 fl_X12_54 sh_97 (al_97 hn) (fun _ _ _ => rfl) rf_97_22 ?_
    refine g_iload dX12_trueOf_152 rfl ?_
    obtain ⟨o3, w⟩ := w
    refine g_iald dX12_trueOf_154 sh_105 (al_105 hn) (Nat.le_of_ble_eq_true rfl) o3 ?_
    refine g_isub dX12_trueOf_155 ?_
    refine g_iadd dX12_trueOf_156 ?_
    refine g_istore_n (ls' := [aP 97, aI x1, aI (x2 + x10), aI (x3 + ((h 99 (x8 + 3)) - (h 105 x9))), aI x4, aI s0, aI x10, aI x7, aI x8, aI x9, aI x10]) dX12_trueOf_157 (Nat.le_of_ble_eq_true rfl) rfl rfl ?_
    refine g_iinc (ls' := [aP 97, aI x1, aI (x2 + x10), aI (x3 + ((h 99 (x8 + 3)) - (h 105 x9))), aI (x4 + 1), aI s0, aI x10, aI x7, aI x8, aI x9, aI x10]) dX12_trueOf_158 rfl (Nat.le_of_ble_eq_true rfl) rfl rfl ?_
    refine g_iinc (ls' := [aP 97, aI x1, aI (x2 + x10), aI (x3 + ((h 99 (x8 + 3)) - (h 105 x9))), aI (x4 + 1), aI s0, aI x10, aI (x7 + 1), aI x8, aI x9, aI x10]) dX12_trueOf_161 rfl (Nat.le_of_ble_eq_true rfl) rfl rfl ?_
    refine g_goto (tgt := 16) dX12_trueOf_164 rfl ?_
    exact g_sub (ls' := [aP 97, aI x1, aI (x2 + x10), aI (x3 + ((h 99 (x8 + 3)) - (h 105 x9))), aI (x4 + 1), aI s0, aI x10, aI (x7 + 1), aU, aU, aU]) ⟨Or.inr rfl, Or.inr rfl, Or.inr rfl, Or.inr rfl, Or.inr rfl, Or.inr rfl, Or.inr rfl, Or.inr rfl, Or.inl rfl, Or.inl rfl, Or.inl rfl, trivial⟩ w
  · refine g_iload dX12_trueOf_117 rfl ?_
    refine g_iload dX12_trueOf_119 rfl ?_
    obtain ⟨o4, w⟩ := w
    obtain ⟨o5, w⟩ := w
    refine g_cmp_le (tgt := 129) dX12_trueOf_121 rfl o4 o5 ?_
    refine ite_imp (fun w => ?_) (fun w => ?_) w
    · refine g_iload dX12_trueOf_129 rfl ?_
      refine g_istore (ls' := [aP 97, aI x1, aI x2, aI x3, aI x4, aI s0, aI x6, aI x7, aI x8, aI x9, aI x10]) dX12_trueOf_131 (Nat.le_of_ble_eq_true rfl) rfl rfl ?_
      refine g_iload_n dX12_trueOf_133 rfl ?_
      refine g_iload dX12_trueOf_134 rfl ?_
      refine g_iadd dX12_trueOf_136 ?_
      refine g_istore_n (ls' := [aP 97, aI x1, aI (x2 + x10), aI x3, aI x4, aI s0, aI x6, aI x7, aI x8, aI x9, aI x10]) dX12_trueOf_137 (Nat.le_of_ble_eq_true rfl) rfl rfl ?_
      refine g_iload_n dX12_trueOf_138 rfl ?_
      refine g_aload_n dX12_trueOf_139 rfl ?_
      refine g_getR dX12_trueOf_140 fl_X12_33 sh_97 (al_97 hn) (fun _ _ _ => rfl) rf_97_6 ?_
      refine g_iload dX12_trueOf_143 rfl ?_
      refine g_iconst dX12_trueOf_145 ?_
      refine g_iadd dX12_trueOf_146 ?_
      obtain ⟨o6, w⟩ := w
      refine g_iald dX12_trueOf_147 sh_99 (al_99 hn) (Nat.le_of_ble_eq_true rfl) o6 ?_
      refine g_aload_n dX12_trueOf_148 rfl ?_
      refine g_getR dX12_trueOf_149 fl_X12_54 sh_97 (al_97 hn) (fun _ _ _ => rfl) rf_97_22 ?_
      refine g_iload dX12_trueOf_152 rfl ?_
      obtain ⟨o7, w⟩ := w
      refine g_iald dX12_trueOf_154 sh_105 (al_105 hn) (Nat.le_of_ble_eq_true rfl) o7 ?_
      refine g_isub dX12_trueOf_155 ?_
      refine g_iadd dX12_trueOf_156 ?_
      refine g_istore_n (ls' := [aP 97, aI x1, aI (x2 + x10), aI (x3 + ((h 99 (x8 + 3)) - (h 105 x9))), aI x4, aI s0, aI x6, aI x7, aI x8, aI x9, aI x10]) dX12_trueOf_157 (Nat.le_of_ble_eq_true rfl) rfl rfl ?_
      refine g_iinc (ls' := [aP 97, aI x1, aI (x2 + x10), aI (x3 + ((h 99 (x8 + 3)) - (h 105 x9))), aI (x4 + 1), aI s0, aI x6, aI x7, aI x8, aI x9, aI x10]) dX12_trueOf_158 rfl (Nat.le_of_ble_eq_true rfl) rfl rfl ?_
      refine g_iinc (ls' := [aP 97, aI x1, aI (x2 + x10), aI (x3 + ((h 99 (x8 + 3)) - (h 105 x9))), aI (x4 + 1), aI s0, aI x6, aI (x7 + 1), aI x8, aI x9, aI x10]) dX12_trueOf_161 rfl (Nat.le_of_ble_eq_true rfl) rfl rfl ?_
      refine g_goto (tgt := 16) dX12_trueOf_164 rfl ?_
      exact g_sub (ls' := [aP 97, aI x1, aI (x2 + x10), aI (x3 + ((h 99 (x8 + 3)) - (h 105 x9))), aI (x4 + 1), aI s0, aI x6, aI (x7 + 1), aU, aU, aU]) ⟨Or.inr rfl, Or.inr rfl, Or.inr rfl, Or.inr rfl, Or.inr rfl, Or.inr rfl, Or.inr rfl, Or.inr rfl, Or.inl rfl, Or.inl rfl, Or.inl rfl, trivial⟩ w
    · refine g_iload dX12_trueOf_124 rfl ?_
      refine g_goto (tgt := 131) dX12_trueOf_126 rfl ?_
      refine g_istore (ls' := [aP 97, aI x1, aI x2, aI x3, aI x4, aI s0, aI x10, aI x7, aI x8, aI x9, aI x10]) dX12_trueOf_131 (Nat.le_of_ble_eq_true rfl) rfl rfl ?_
      refine g_iload_n dX12_trueOf_133 rfl ?_
      refine g_iload dX12_trueOf_134 rfl ?_
      refine g_iadd dX12_trueOf_136 ?_
      refine g_istore_n (ls' := [aP 97, aI x1, aI (x2 + x10), aI x3, aI x4, aI s0, aI x10, aI x7, aI x8, aI x9, aI x10]) dX12_trueOf_137 (Nat.le_of_ble_eq_true rfl) rfl rfl ?_
      refine g_iload_n dX12_trueOf_138 rfl ?_
      refine g_aload_n dX12_trueOf_139 rfl ?_
      refine g_getR dX12_trueOf_140 fl_X12_33 sh_97 (al_97 hn) (fun _ _ _ => rfl) rf_97_6 ?_
      refine g_iload dX12_trueOf_143 rfl ?_
      refine g_iconst dX12_trueOf_145 ?_
      refine g_iadd dX12_trueOf_146 ?_
      obtain ⟨o8, w⟩ := w
      refine g_iald dX12_trueOf_147 sh_99 (al_99 hn) (Nat.le_of_ble_eq_true rfl) o8 ?_
      refine g_aload_n dX12_trueOf_148 rfl ?_
      refine g_getR dX12_trueOf_149 fl_X12_54 sh_97 (al_97 hn) (fun _ _ _ => rfl) rf_97_22 ?_
      refine g_iload dX12_trueOf_152 rfl ?_
      obtain ⟨o9, w⟩ := w
      refine g_iald dX12_trueOf_154 sh_105 (al_105 hn) (Nat.le_of_ble_eq_true rfl) o9 ?_
      refine g_isub dX12_trueOf_155 ?_
      refine g_iadd dX12_trueOf_156 ?_
      refine g_istore_n (ls' := [aP 97, aI x1, aI (x2 + x10), aI (x3 + ((h 99 (x8 + 3)) - (h 105 x9))), aI x4, aI s0, aI x10, aI x7, aI x8, aI x9, aI x10]) dX12_trueOf_157 (Nat.le_of_ble_eq_true rfl) rfl rfl ?_
      refine g_iinc (ls' := [aP 97, aI x1, aI (x2 + x10), aI (x3 + ((h 99 (x8 + 3)) - (h 105 x9))), aI (x4 + 1), aI s0, aI x10, aI x7, aI x8, aI x9, aI x10]) dX12_trueOf_158 rfl (Nat.le_of_ble_eq_true rfl) rfl rfl ?_
      refine g_iinc (ls' := [aP 97, aI x1, aI (x2 + x10), aI (x3 + ((h 99 (x8 + 3)) - (h 105 x9))), aI (x4 + 1), aI s0, aI x10, aI (x7 + 1), aI x8, aI x9, aI x10]) dX12_trueOf_161 rfl (Nat.le_of_ble_eq_true rfl) rfl rfl ?_
      refine g_goto (tgt := 16) dX12_trueOf_164 rfl ?_
      exact g_sub (ls' := [aP 97, aI x1, aI (x2 + x10), aI (x3 + ((h 99 (x8 + 3)) - (h 105 x9))), aI (x4 + 1), aI s0, aI x10, aI (x7 + 1), aU, aU, aU]) ⟨Or.inr rfl, Or.inr rfl, Or.inr rfl, Or.inr rfl, Or.inr rfl, Or.inr rfl, Or.inr rfl, Or.inr rfl, Or.inl rfl, Or.inl rfl, Or.inl rfl, trivial⟩ w
theorem b_X12_trueOf_194 {l : Launch} {D : Nat} {ζ : ZP} {h : HI} {Q : HI → Prop} {s0 s1 x1 x2 x3 x4 : Int} (hn : 144 ≤ ζ.2.2.2.2) (w : (0 ≤ s1 ∧ s1 < 60) ∧ (rg x4) ∧ (if ¬ x4 = 0 then ((rg x2) ∧ (x4 ≠ 0) ∧ (rg (x2.tdiv x4)) ∧ (if 1 ≤ (x2.tdiv x4) then ((0 ≤ x1 ∧ x1 < 60) ∧ (if ¬ x4 = 0 then ((rg x3) ∧ (rg (x3.tdiv x4)) ∧ (if 1 ≤ (x3.tdiv x4) then (Q (hu (hu (hu h 108 s1 s0) 106 x1 (x2.tdiv x4)) 107 x1 (x3.tdiv x4))) else (Q (hu (hu (hu h 108 s1 s0) 106 x1 (x2.tdiv x4)) 107 x1 1)))) else (Q (hu (hu (hu h 108 s1 s0) 106 x1 (x2.tdiv x4)) 107 x1 (-1))))) else ((0 ≤ x1 ∧ x1 < 60) ∧ (if ¬ x4 = 0 then ((rg x3) ∧ (rg (x3.tdiv x4)) ∧ (if 1 ≤ (x3.tdiv x4) then (Q (hu (hu (hu h 108 s1 s0) 106 x1 1) 107 x1 (x3.tdiv x4))) else (Q (hu (hu (hu h 108 s1 s0) 106 x1 1) 107 x1 1)))) else (Q (hu (hu (hu h 108 s1 s0) 106 x1 1) 107 x1 (-1))))))) else ((0 ≤ x1 ∧ x1 < 60) ∧ (if ¬ x4 = 0 then ((rg x3) ∧ (x4 ≠ 0) ∧ (rg (x3.tdiv x4)) ∧ (if 1 ≤ (x3.tdiv x4) then (Q (hu (hu (hu h 108 s1 s0) 106 x1 (-1)) 107 x1 (x3.tdiv x4))) else (Q (hu (hu (hu h 108 s1 s0) 106 x1 (-1)) 107 x1 1)))) else (Q (hu (hu (hu h 108 s1 s0) 106 x1 (-1)) 107 x1 (-1))))))) : G l (D + 1) 0 0 mX12_trueOf (zz ζ) 194 [aP 97, aI x1, aI x2, aI x3, aI x4, aU, aU, aU, aU, aU, aU] [aI s0, aI s1, aP 108] h (qV (zz ζ) Q) := by
  obtain ⟨o1, w⟩ := w
  refine g_iast dX12_trueOf_194 sh_108 (al_108 hn) (Nat.le_of_ble_eq_true rfl) o1 ?_
  refine g_aload_n dX12_trueOf_195 rfl ?_
  refine g_getR dX12_trueOf_196 fl_X12_57 sh_97 (al_97 hn) (fun _ _ _ => rfl) rf_97_23 ?_
  refine g_iload_n dX12_trueOf_199 rfl ?_
  refine g_iload dX12_trueOf_200 rfl ?_
  obtain ⟨o2, w⟩ := w
  refine g_if_ne (tgt := 209) dX12_trueOf_202 rfl o2 ?_
  refine ite_imp (fun w => ?_) (fun w => ?_) w
  · refine g_iload_n dX12_trueOf_209 rfl ?_
    refine g_iload dX12_trueOf_210 rfl ?_
    obtain ⟨o3, w⟩ := w
    obtain ⟨o4, w⟩ := w
    refine g_idiv dX12_trueOf_212 o3 o2 o4 ?_
    refine g_iconst dX12_trueOf_213 ?_
    obtain ⟨o5, w⟩ := w
    refine g_cmp_ge (tgt := 221) dX12_trueOf_214 rfl o5 (by decide) ?_
    refine ite_imp (fun w => ?_) (fun w => ?_) w
    · refine g_iload_n dX12_trueOf_221 rfl ?_
      refine g_iload dX12_trueOf_222 rfl ?_
      refine g_idiv dX12_trueOf_224 o3 o2 o4 ?_
      obtain ⟨o6, w⟩ := w
      refine g_iast dX12_trueOf_225 sh_106 (al_106 hn) (Nat.le_of_ble_eq_true rfl) o6 ?_
      refine g_aload_n dX12_trueOf_226 rfl ?_
      refine g_getR dX12_trueOf_227 fl_X12_60 sh_97 (al_97 hn) (fun _ _ _ => rfl) rf_97_24 ?_
      refine g_iload_n dX12_trueOf_230 rfl ?_
      refine g_iload dX12_trueOf_231 rfl ?_
      refine g_if_ne (tgt := 240) dX12_trueOf_233 rfl o2 ?_
      refine ite_imp (fun w => ?_) (fun w => ?_) w
      · refine g_iload_n dX12_trueOf_240 rfl ?_
        refine g_iload dX12_trueOf_241 rfl ?_
        obtain ⟨o7, w⟩ := w
        refine g_idiv dX12_trueOf_243 o7 o2 o4 ?_
        refine g_iconst dX12_trueOf_244 ?_
        obtain ⟨o8, w⟩ := w
        refine g_cmp_ge (tgt := 252) dX12_trueOf_245 rfl o8 (by decide) ?_
        refine ite_imp (fun w => ?_) (fun w => ?_) w
        · refine g_iload_n dX12_trueOf_252 rfl ?_
          refine g_iload dX12_trueOf_253 rfl ?_
          refine g_idiv dX12_trueOf_255 o7 o2 o4 ?_
          refine g_iast dX12_trueOf_256 sh_107 (al_107 hn) (Nat.le_of_ble_eq_true rfl) o6 ?_
          exact g_retV dX12_trueOf_257 rfl w
        · refine g_iconst dX12_trueOf_248 ?_
          refine g_goto (tgt := 256) dX12_trueOf_249 rfl ?_
          refine g_iast dX12_trueOf_256 sh_107 (al_107 hn) (Nat.le_of_ble_eq_true rfl) o6 ?_
          exact g_retV dX12_trueOf_257 rfl w
      · refine g_iconst dX12_trueOf_236 ?_
        refine g_goto (tgt := 256) dX12_trueOf_237 rfl ?_
        refine g_iast dX12_trueOf_256 sh_107 (al_107 hn) (Nat.le_of_ble_eq_true rfl) o6 ?_
        exact g_retV dX12_trueOf_257 rfl w
    · refine g_iconst dX12_trueOf_217 ?_
      refine g_goto (tgt := 225) dX12_trueOf_218 rfl ?_
      obtain ⟨o9, w⟩ := w
      refine g_iast dX12_trueOf_225 sh_106 (al_106 hn) (Nat.le_of_ble_eq_true rfl) o9 ?_
      refine g_aload_n dX12_trueOf_226 rfl ?_
      refine g_getR dX12_trueOf_227 fl_X12_60 sh_97 (al_97 hn) (fun _ _ _ => rfl) rf_97_24 ?_
      refine g_iload_n dX12_trueOf_230 rfl ?_
      refine g_iload dX12_trueOf_231 rfl ?_
      refine g_if_ne (tgt := 240) dX12_trueOf_233 rfl o2 ?_
      refine ite_imp (fun w => ?_) (fun w => ?_) w
      · refine g_iload_n dX12_trueOf_240 rfl ?_
        refine g_iload dX12_trueOf_241 rfl ?_
        obtain ⟨o10, w⟩ := w
        refine g_idiv dX12_trueOf_243 o10 o2 o4 ?_
        refine g_iconst dX12_trueOf_244 ?_
        obtain ⟨o11, w⟩ := w
        refine g_cmp_ge (tgt := 252) dX12_trueOf_245 rfl o11 (by decide) ?_
        refine ite_imp (fun w => ?_) (fun w => ?_) w
        · refine g_iload_n dX12_trueOf_252 rfl ?_
          refine g_iload dX12_trueOf_253 rfl ?_
          refine g_idiv dX12_trueOf_255 o10 o2 o4 ?_
          refine g_iast dX12_trueOf_256 sh_107 (al_107 hn) (Nat.le_of_ble_eq_true rfl) o9 ?_
          exact g_retV dX12_trueOf_257 rfl w
        · refine g_iconst dX12_trueOf_248 ?_
          refine g_goto (tgt := 256) dX12_trueOf_249 rfl ?_
          refine g_iast dX12_trueOf_256 sh_107 (al_107 hn) (Nat.le_of_ble_eq_true rfl) o9 ?_
          exact g_retV dX12_trueOf_257 rfl w
      · refine g_iconst dX12_trueOf_236 ?_
        refine g_goto (tgt := 256) dX12_trueOf_237 rfl ?_
        refine g_iast dX12_trueOf_256 sh_107 (al_107 hn) (Nat.le_of_ble_eq_true rfl) o9 ?_
        exact g_retV dX12_trueOf_257 rfl w
  · refine g_iconst dX12_trueOf_205 ?_
    refine g_goto (tgt := 225) dX12_trueOf_206 rfl ?_
    obtain ⟨o12, w⟩ := w
    refine g_iast dX12_trueOf_225 sh_106 (al_106 hn) (Nat.le_of_ble_eq_true rfl) o12 ?_
    refine g_aload_n dX12_trueOf_226 rfl ?_
    refine g_getR dX12_trueOf_227 fl_X12_60 sh_97 (al_97 hn) (fun _ _ _ => rfl) rf_97_24 ?_
    refine g_iload_n dX12_trueOf_230 rfl ?_
    refine g_iload dX12_trueOf_231 rfl ?_
    refine g_if_ne (tgt := 240) dX12_trueOf_233 rfl o2 ?_
    refine ite_imp (fun w => ?_) (fun w => ?_) w
    · refine g_iload_n dX12_trueOf_240 rfl ?_
      refine g_iload dX12_trueOf_241 rfl ?_
      obtain ⟨o13, w⟩ := w
      obtain ⟨o14, w⟩ := w
      refine g_idiv dX12_trueOf_243 o13 o2 o14 ?_
      refine g_iconst dX12_trueOf_244 ?_
      obtain ⟨o15, w⟩ := w
      refine g_cmp_ge (tgt := 252) dX12_trueOf_245 rfl o15 (by decide) ?_
      refine ite_imp (fun w => ?_) (fun w => ?_) w
      · refine g_iload_n dX12_trueOf_252 rfl ?_
        refine g_iload dX12_trueOf_253 rfl ?_
        refine g_idiv dX12_trueOf_255 o13 o2 o14 ?_
        refine g_iast dX12_trueOf_256 sh_107 (al_107 hn) (Nat.le_of_ble_eq_true rfl) o12 ?_
        exact g_retV dX12_trueOf_257 rfl w
      · refine g_iconst dX12_trueOf_248 ?_
        refine g_goto (tgt := 256) dX12_trueOf_249 rfl ?_
        refine g_iast dX12_trueOf_256 sh_107 (al_107 hn) (Nat.le_of_ble_eq_true rfl) o12 ?_
        exact g_retV dX12_trueOf_257 rfl w
    · refine g_iconst dX12_trueOf_236 ?_
      refine g_goto (tgt := 256) dX12_trueOf_237 rfl ?_
      refine g_iast dX12_trueOf_256 sh_107 (al_107 hn) (Nat.le_of_ble_eq_true rfl) o12 ?_
      exact g_retV dX12_trueOf_257 rfl w
theorem e_X12_trueOf {l : Launch} {D : Nat} {ζ : ZP} {h : HI} {Q : HI → Prop} {x1 : Int} (hn : 144 ≤ ζ.2.2.2.2) (w : G l (D + 1) 0 0 mX12_trueOf (zz ζ) 16 [aP 97, aI x1, aI 0, aI 0, aI 0, aI 0, aI 0, aI 0, aU, aU, aU] [] h (qV (zz ζ) Q)) : RtV l (D + 1) mX12_trueOf (zz ζ) [aP 97, aI x1] h Q := by
  refine RtV.of 9 pn_X12 [aP 97, aI x1, aU, aU, aU, aU, aU, aU, aU, aU, aU] rfl rfl ?_
  refine g_iconst dX12_trueOf_0 ?_
  refine g_istore_n (ls' := [aP 97, aI x1, aI 0, aU, aU, aU, aU, aU, aU, aU, aU]) dX12_trueOf_1 (Nat.le_of_ble_eq_true rfl) rfl rfl ?_
  refine g_iconst dX12_trueOf_2 ?_
  refine g_istore_n (ls' := [aP 97, aI x1, aI 0, aI 0, aU, aU, aU, aU, aU, aU, aU]) dX12_trueOf_3 (Nat.le_of_ble_eq_true rfl) rfl rfl ?_
  refine g_iconst dX12_trueOf_4 ?_
  refine g_istore (ls' := [aP 97, aI x1, aI 0, aI 0, aI 0, aU, aU, aU, aU, aU, aU]) dX12_trueOf_5 (Nat.le_of_ble_eq_true rfl) rfl rfl ?_
  refine g_iconst dX12_trueOf_7 ?_
  refine g_istore (ls' := [aP 97, aI x1, aI 0, aI 0, aI 0, aI 0, aU, aU, aU, aU, aU]) dX12_trueOf_8 (Nat.le_of_ble_eq_true rfl) rfl rfl ?_
  refine g_iconst dX12_trueOf_10 ?_
  refine g_istore (ls' := [aP 97, aI x1, aI 0, aI 0, aI 0, aI 0, aI 0, aU, aU, aU, aU]) dX12_trueOf_11 (Nat.le_of_ble_eq_true rfl) rfl rfl ?_
  refine g_iconst dX12_trueOf_13 ?_
  refine g_istore (ls' := [aP 97, aI x1, aI 0, aI 0, aI 0, aI 0, aI 0, aI 0, aU, aU, aU]) dX12_trueOf_14 (Nat.le_of_ble_eq_true rfl) rfl rfl ?_
  exact g_sub (ls' := [aP 97, aI x1, aI 0, aI 0, aI 0, aI 0, aI 0, aI 0, aU, aU, aU]) ⟨Or.inr rfl, Or.inr rfl, Or.inr rfl, Or.inr rfl, Or.inr rfl, Or.inr rfl, Or.inr rfl, Or.inr rfl, Or.inl rfl, Or.inl rfl, Or.inl rfl, trivial⟩ w
theorem b_X12_firstOn_2 {l : Launch} {D : Nat} {ζ : ZP} {h : HI} {Q : Int → HI → Prop} {x1 x2 x3 : Int} (hn : 144 ≤ ζ.2.2.2.2) (w : (rg x3) ∧ (rg (h 99 12)) ∧ (if (h 99 12) ≤ x3 then (Q (-1) h) else ((0 ≤ (77 + (4 * x3)) ∧ (77 + (4 * x3)) < 2819) ∧ (rg (h 99 (77 + (4 * x3)))) ∧ (rg x1) ∧ (if ¬ (h 99 (77 + (4 * x3))) = x1 then (G l (D + 1) 0 0 mX12_firstOn (zz ζ) 2 [aP 97, aI x1, aI x2, aI (x3 + 1)] [] h (qI (zz ζ) Q)) else ((0 ≤ ((77 + (4 * x3)) + 1) ∧ ((77 + (4 * x3)) + 1) < 2819) ∧ (rg (h 99 ((77 + (4 * x3)) + 1))) ∧ (rg x2) ∧ (if ¬ (h 99 ((77 + (4 * x3)) + 1)) = x2 then (G l (D + 1) 0 0 mX12_firstOn (zz ζ) 2 [aP 97, aI x1, aI x2, aI (x3 + 1)] [] h (qI (zz ζ) Q)) else (Q x3 h))))))) : G l (D + 1) 0 0 mX12_firstOn (zz ζ) 2 [aP 97, aI x1, aI x2, aI x3] [] h (qI (zz ζ) Q) := by
  refine g_iload_n dX12_firstOn_2 rfl ?_
  refine g_aload_n dX12_firstOn_3 rfl ?_
  refine g_getR dX12_firstOn_4 fl_X12_33 sh_97 (al_97 hn) (fun _ _ _ => rfl) rf_97_6 ?_
  refine g_bipush dX12_firstOn_7 rfl ?_
  refine g_iald dX12_firstOn_9 sh_99 (al_99 hn) (Nat.le_of_ble_eq_true rfl) (by decide) ?_
  obtain ⟨o1, w⟩ := w
  obtain ⟨o2, w⟩ := w
  refine g_cmp_ge (tgt := 53) dX12_firstOn_10 rfl o1 o2 ?_
  refine ite_imp (fun w => ?_) (fun w => ?_) w
  · refine g_iconst dX12_firstOn_53 ?_
    exact g_retI dX12_firstOn_54 rfl w
  · refine g_aload_n dX12_firstOn_13 rfl ?_
    refine g_getR dX12_firstOn_14 fl_X12_33 sh_97 (al_97 hn) (fun _ _ _ => rfl) rf_97_6 ?_
    refine g_bipush dX12_firstOn_17 rfl ?_
    refine g_iconst dX12_firstOn_19 ?_
    refine g_iload_n dX12_firstOn_20 rfl ?_
    refine g_imul dX12_firstOn_21 ?_
    refine g_iadd dX12_firstOn_22 ?_
    obtain ⟨o3, w⟩ := w
    refine g_iald dX12_firstOn_23 sh_99 (al_99 hn) (Nat.le_of_ble_eq_true rfl) o3 ?_
    refine g_iload_n dX12_firstOn_24 rfl ?_
    obtain ⟨o4, w⟩ := w
    obtain ⟨o5, w⟩ := w
    refine g_cmp_ne (tgt := 47) dX12_firstOn_25 rfl o4 o5 ?_
    refine ite_imp (fun w => ?_) (fun w => ?_) w
    · refine g_iinc (ls' := [aP 97, aI x1, aI x2, aI (x3 + 1)]) dX12_firstOn_47 rfl (Nat.le_of_ble_eq_true rfl) rfl rfl ?_
      refine g_goto (tgt := 2) dX12_firstOn_50 rfl ?_
      exact g_sub (ls' := [aP 97, aI x1, aI x2, aI (x3 + 1)]) ⟨Or.inr rfl, Or.inr rfl, Or.inr rfl, Or.inr rfl, trivial⟩ w
    · refine g_aload_n dX12_firstOn_28 rfl ?_
      refine g_getR dX12_firstOn_29 fl_X12_33 sh_97 (al_97 hn) (fun _ _ _ => rfl) rf_97_6 ?_
      refine g_bipush dX12_firstOn_32 rfl ?_
      refine g_iconst dX12_firstOn_34 ?_
      refine g_iload_n dX12_firstOn_35 rfl ?_
      refine g_imul dX12_firstOn_36 ?_
      refine g_iadd dX12_firstOn_37 ?_
      refine g_iconst dX12_firstOn_38 ?_
      refine g_iadd dX12_firstOn_39 ?_
      obtain ⟨o6, w⟩ := w
      refine g_iald dX12_firstOn_40 sh_99 (al_99 hn) (Nat.le_of_ble_eq_true rfl) o6 ?_
      refine g_iload_n dX12_firstOn_41 rfl ?_
      obtain ⟨o7, w⟩ := w
      obtain ⟨o8, w⟩ := w
      refine g_cmp_ne (tgt := 47) dX12_firstOn_42 rfl o7 o8 ?_
      refine ite_imp (fun w => ?_) (fun w => ?_) w
      · refine g_iinc (ls' := [aP 97, aI x1, aI x2, aI (x3 + 1)]) dX12_firstOn_47 rfl (Nat.le_of_ble_eq_true rfl) rfl rfl ?_
        refine g_goto (tgt := 2) dX12_firstOn_50 rfl ?_
        exact g_sub (ls' := [aP 97, aI x1, aI x2, aI (x3 + 1)]) ⟨Or.inr rfl, Or.inr rfl, Or.inr rfl, Or.inr rfl, trivial⟩ w
      · refine g_iload_n dX12_firstOn_45 rfl ?_
        exact g_retI dX12_firstOn_46 rfl w
theorem e_X12_firstOn {l : Launch} {D : Nat} {ζ : ZP} {h : HI} {Q : Int → HI → Prop} {x1 x2 : Int} (hn : 144 ≤ ζ.2.2.2.2) (w : G l (D + 1) 0 0 mX12_firstOn (zz ζ) 2 [aP 97, aI x1, aI x2, aI 0] [] h (qI (zz ζ) Q)) : RtI l (D + 1) mX12_firstOn (zz ζ) [aP 97, aI x1, aI x2] h Q := by
  refine RtI.of 1 pn_X12 [aP 97, aI x1, aI x2, aU] rfl rfl ?_
  refine g_iconst dX12_firstOn_0 ?_
  refine g_istore_n (ls' := [aP 97, aI x1, aI x2, aI 0]) dX12_firstOn_1 (Nat.le_of_ble_eq_true rfl) rfl rfl ?_
  exact g_sub (ls' := [aP 97, aI x1, aI x2, aI 0]) ⟨Or.inr rfl, Or.inr rfl, Or.inr rfl, Or.inr rfl, trivial⟩ w
theorem b_X12_settle_2 {l : Launch} {D : Nat} {ζ : ZP} {h : HI} {Q : HI → Prop} {x1 : Int} (hn : 144 ≤ ζ.2.2.2.2) (w : (rg x1) ∧ (if 6 ≤ x1 then (G l (D + 1) 0 0 mX12_settle (zz ζ) 54 [aP 97, aI 0, aU, aU, aU, aU] [] h (qV (zz ζ) Q)) else (if ¬ x1 = 0 then ((0 ≤ x1 ∧ x1 < 6) ∧ G l (D + 1) 0 0 mX12_settle (zz ζ) 2 [aP 97, aI (x1 + 1), aU, aU, aU, aU] [] (hu (hu (hu h 103 x1 0) 104 x1 0) 105 x1 0) (qV (zz ζ) Q)) else ((rg (h 99 0)) ∧ (if (h 99 0) ≤ 0 then ((0 ≤ x1 ∧ x1 < 6) ∧ G l (D + 1) 0 0 mX12_settle (zz ζ) 2 [aP 97, aI (x1 + 1), aU, aU, aU, aU] [] (hu (hu (hu h 103 x1 0) 104 x1 0) 105 x1 0) (qV (zz ζ) Q)) else ((0 ≤ x1 ∧ x1 < 6) ∧ G l (D + 1) 0 0 mX12_settle (zz ζ) 2 [aP 97, aI (x1 + 1), aU, aU, aU, aU] [] (hu (hu (hu h 103 x1 1) 104 x1 0) 105 x1 0) (qV (zz ζ) Q))))))) : G l (D + 1) 0 0 mX12_settle (zz ζ) 2 [aP 97, aI x1, aU, aU, aU, aU] [] h (qV (zz ζ) Q) := by
  refine g_iload_n dX12_settle_2 rfl ?_
  refine g_bipush dX12_settle_3 rfl ?_
  obtain ⟨o1, w⟩ := w
  refine g_cmp_ge (tgt := 52) dX12_settle_5 rfl o1 (by decide) ?_
  refine ite_imp (fun w => ?_) (fun w => ?_) w
  · refine g_iconst dX12_settle_52 ?_
    refine g_istore_n (ls' := [aP 97, aI 0, aU, aU, aU, aU]) dX12_settle_53 (Nat.le_of_ble_eq_true rfl) rfl rfl ?_
    exact g_sub (ls' := [aP 97, aI 0, aU, aU, aU, aU]) ⟨Or.inr rfl, Or.inr rfl, Or.inl rfl, Or.inl rfl, Or.inl rfl, Or.inl rfl, trivial⟩ w
  · refine g_aload_n dX12_settle_8 rfl ?_
    refine g_getR dX12_settle_9 fl_X12_47 sh_97 (al_97 hn) (fun _ _ _ => rfl) rf_97_20 ?_
    refine g_iload_n dX12_settle_12 rfl ?_
    refine g_iload_n dX12_settle_13 rfl ?_
    refine g_if_ne (tgt := 30) dX12_settle_14 rfl o1 ?_
    refine ite_imp (fun w => ?_) (fun w => ?_) w
    · refine g_iconst dX12_settle_30 ?_
      obtain ⟨o2, w⟩ := w
      refine g_zast dX12_settle_31 sh_103 (al_103 hn) (Nat.le_of_ble_eq_true rfl) o2 (Or.inl rfl) ?_
      refine g_aload_n dX12_settle_32 rfl ?_
      refine g_getR dX12_settle_33 fl_X12_51 sh_97 (al_97 hn) (fun _ _ _ => rfl) rf_97_21 ?_
      refine g_iload_n dX12_settle_36 rfl ?_
      refine g_iconst dX12_settle_37 ?_
      refine g_iast dX12_settle_38 sh_104 (al_104 hn) (Nat.le_of_ble_eq_true rfl) o2 ?_
      refine g_aload_n dX12_settle_39 rfl ?_
      refine g_getR dX12_settle_40 fl_X12_54 sh_97 (al_97 hn) (fun _ _ _ => rfl) rf_97_22 ?_
      refine g_iload_n dX12_settle_43 rfl ?_
      refine g_iconst dX12_settle_44 ?_
      refine g_iast dX12_settle_45 sh_105 (al_105 hn) (Nat.le_of_ble_eq_true rfl) o2 ?_
      refine g_iinc (ls' := [aP 97, aI (x1 + 1), aU, aU, aU, aU]) dX12_settle_46 rfl (Nat.le_of_ble_eq_true rfl) rfl rfl ?_
      refine g_goto (tgt := 2) dX12_settle_49 rfl ?_
      exact g_sub (ls' := [aP 97, aI (x1 + 1), aU, aU, aU, aU]) ⟨Or.inr rfl, Or.inr rfl, Or.inl rfl, Or.inl rfl, Or.inl rfl, Or.inl rfl, trivial⟩ w
    · refine g_aload_n dX12_settle_17 rfl ?_
      refine g_getR dX12_settle_18 fl_X12_33 sh_97 (al_97 hn) (fun _ _ _ => rfl) rf_97_6 ?_
      refine g_iconst dX12_settle_21 ?_
      refine g_iald dX12_settle_22 sh_99 (al_99 hn) (Nat.le_of_ble_eq_true rfl) (by decide) ?_
      obtain ⟨o3, w⟩ := w
      refine g_if_le (tgt := 30) dX12_settle_23 rfl o3 ?_
      refine ite_imp (fun w => ?_) (fun w => ?_) w
      · refine g_iconst dX12_settle_30 ?_
        obtain ⟨o4, w⟩ := w
        refine g_zast dX12_settle_31 sh_103 (al_103 hn) (Nat.le_of_ble_eq_true rfl) o4 (Or.inl rfl) ?_
        refine g_aload_n dX12_settle_32 rfl ?_
        refine g_getR dX12_settle_33 fl_X12_51 sh_97 (al_97 hn) (fun _ _ _ => rfl) rf_97_21 ?_
        refine g_iload_n dX12_settle_36 rfl ?_
        refine g_iconst dX12_settle_37 ?_
        refine g_iast dX12_settle_38 sh_104 (al_104 hn) (Nat.le_of_ble_eq_true rfl) o4 ?_
        refine g_aload_n dX12_settle_39 rfl ?_
        refine g_getR dX12_settle_40 fl_X12_54 sh_97 (al_97 hn) (fun _ _ _ => rfl) rf_97_22 ?_
        refine g_iload_n dX12_settle_43 rfl ?_
        refine g_iconst dX12_settle_44 ?_
        refine g_iast dX12_settle_45 sh_105 (al_105 hn) (Nat.le_of_ble_eq_true rfl) o4 ?_
        refine g_iinc (ls' := [aP 97, aI (x1 + 1), aU, aU, aU, aU]) dX12_settle_46 rfl (Nat.le_of_ble_eq_true rfl) rfl rfl ?_
        refine g_goto (tgt := 2) dX12_settle_49 rfl ?_
        exact g_sub (ls' := [aP 97, aI (x1 + 1), aU, aU, aU, aU]) ⟨Or.inr rfl, Or.inr rfl, Or.inl rfl, Or.inl rfl, Or.inl rfl, Or.inl rfl, trivial⟩ w
      · refine g_iconst dX12_settle_26 ?_
        refine g_goto (tgt := 31) dX12_settle_27 rfl ?_
        obtain ⟨o5, w⟩ := w
        refine g_zast dX12_settle_31 sh_103 (al_103 hn) (Nat.le_of_ble_eq_true rfl) o5 (Or.inr rfl) ?_
        refine g_aload_n dX12_settle_32 rfl ?_
        refine g_getR dX12_settle_33 fl_X12_51 sh_97 (al_97 hn) (fun _ _ _ => rfl) rf_97_21 ?_
        refine g_iload_n dX12_settle_36 rfl ?_
        refine g_iconst dX12_settle_37 ?_
        refine g_iast dX12_settle_38 sh_104 (al_104 hn) (Nat.le_of_ble_eq_true rfl) o5 ?_
        refine g_aload_n dX12_settle_39 rfl ?_
        refine g_getR dX12_settle_40 fl_X12_54 sh_97 (al_97 hn) (fun _ _ _ => rfl) rf_97_22 ?_
        refine g_iload_n dX12_settle_43 rfl ?_
        refine g_iconst dX12_settle_44 ?_
        refine g_iast dX12_settle_45 sh_105 (al_105 hn) (Nat.le_of_ble_eq_true rfl) o5 ?_
        refine g_iinc (ls' := [aP 97, aI (x1 + 1), aU, aU, aU, aU]) dX12_settle_46 rfl (Nat.le_of_ble_eq_true rfl) rfl rfl ?_
        refine g_goto (tgt := 2) dX12_settle_49 rfl ?_
        exact g_sub (ls' := [aP 97, aI (x1 + 1), aU, aU, aU, aU]) ⟨Or.inr rfl, Or.inr rfl, Or.inl rfl, Or.inl rfl, Or.inl rfl, Or.inl rfl, trivial⟩ w
theorem b_X12_settle_54 {l : Launch} {D : Nat} {ζ : ZP} {h : HI} {Q : HI → Prop} {x1 : Int} (hn : 144 ≤ ζ.2.2.2.2) (w : (rg x1) ∧ (rg (h 99 11)) ∧ (if (h 99 11) ≤ x1 then (G l (D + 1) 0 0 mX12_settle (zz ζ) 78 [aP 97, aI 0, aU, aU, aU, aU] [] h (qV (zz ζ) Q)) else (RtV l D mX12_trueOf (zz ζ) [aP 97, aI x1] h (fun h1 => G l (D + 1) 0 0 mX12_settle (zz ζ) 54 [aP 97, aI (x1 + 1), aU, aU, aU, aU] [] h1 (qV (zz ζ) Q))))) : G l (D + 1) 0 0 mX12_settle (zz ζ) 54 [aP 97, aI x1, aU, aU, aU, aU] [] h (qV (zz ζ) Q) := by
  refine g_iload_n dX12_settle_54 rfl ?_
  refine g_aload_n dX12_settle_55 rfl ?_
  refine g_getR dX12_settle_56 fl_X12_33 sh_97 (al_97 hn) (fun _ _ _ => rfl) rf_97_6 ?_
  refine g_bipush dX12_settle_59 rfl ?_
  refine g_iald dX12_settle_61 sh_99 (al_99 hn) (Nat.le_of_ble_eq_true rfl) (by decide) ?_
  obtain ⟨o1, w⟩ := w
  obtain ⟨o2, w⟩ := w
  refine g_cmp_ge (tgt := 76) dX12_settle_62 rfl o1 o2 ?_
  refine ite_imp (fun w => ?_) (fun w => ?_) w
  · refine g_iconst dX12_settle_76 ?_
    refine g_istore_n (ls' := [aP 97, aI 0, aU, aU, aU, aU]) dX12_settle_77 (Nat.le_of_ble_eq_true rfl) rfl rfl ?_
    exact g_sub (ls' := [aP 97, aI 0, aU, aU, aU, aU]) ⟨Or.inr rfl, Or.inr rfl, Or.inl rfl, Or.inl rfl, Or.inl rfl, Or.inl rfl, trivial⟩ w
  · refine g_aload_n dX12_settle_65 rfl ?_
    refine g_iload_n dX12_settle_66 rfl ?_
    refine g_callVV (n := 1) (As := [aI x1]) (st := []) dX12_settle_67 ml_X12_311 sh_97 rfl (al_97 hn) rfl rfl (Nat.le_of_ble_eq_true rfl) (RtV.mono w (fun h1 w => ?_))
    refine g_iinc (ls' := [aP 97, aI (x1 + 1), aU, aU, aU, aU]) dX12_settle_70 rfl (Nat.le_of_ble_eq_true rfl) rfl rfl ?_
    refine g_goto (tgt := 54) dX12_settle_73 rfl ?_
    exact g_sub (ls' := [aP 97, aI (x1 + 1), aU, aU, aU, aU]) ⟨Or.inr rfl, Or.inr rfl, Or.inl rfl, Or.inl rfl, Or.inl rfl, Or.inl rfl, trivial⟩ w
theorem b_X12_settle_78 {l : Launch} {D : Nat} {ζ : ZP} {h : HI} {Q : HI → Prop} {x1 : Int} (hn : 144 ≤ ζ.2.2.2.2) (w : (rg x1) ∧ (if x1 < 0 then (Q h) else (G l (D + 1) 0 0 mX12_settle (zz ζ) 88 [aP 97, aI (-1), aI 0, aI 0, aU, aU] [] h (qV (zz ζ) Q)))) : G l (D + 1) 0 0 mX12_settle (zz ζ) 78 [aP 97, aI x1, aU, aU, aU, aU] [] h (qV (zz ζ) Q) := by
  refine g_iload_n dX12_settle_78 rfl ?_
  obtain ⟨o1, w⟩ := w
  refine g_if_lt (tgt := 246) dX12_settle_79 rfl o1 ?_
  refine ite_imp (fun w => ?_) (fun w => ?_) w
  · exact g_retV dX12_settle_246 rfl w
  · refine g_iconst dX12_settle_82 ?_
    refine g_istore_n (ls' := [aP 97, aI (-1), aU, aU, aU, aU]) dX12_settle_83 (Nat.le_of_ble_eq_true rfl) rfl rfl ?_
    refine g_iconst dX12_settle_84 ?_
    refine g_istore_n (ls' := [aP 97, aI (-1), aI 0, aU, aU, aU]) dX12_settle_85 (Nat.le_of_ble_eq_true rfl) rfl rfl ?_
    refine g_iconst dX12_settle_86 ?_
    refine g_istore_n (ls' := [aP 97, aI (-1), aI 0, aI 0, aU, aU]) dX12_settle_87 (Nat.le_of_ble_eq_true rfl) rfl rfl ?_
    exact g_sub (ls' := [aP 97, aI (-1), aI 0, aI 0, aU, aU]) ⟨Or.inr rfl, Or.inr rfl, Or.inr rfl, Or.inr rfl, Or.inl rfl, Or.inl rfl, trivial⟩ w
theorem b_X12_settle_88 {l : Launch} {D : Nat} {ζ : ZP} {h : HI} {Q : HI → Prop} {x1 x2 x3 : Int} (hn : 144 ≤ ζ.2.2.2.2) (w : (rg x3) ∧ (rg (h 99 0)) ∧ (if (h 99 0) ≤ x3 then ((rg x1) ∧ (if 0 ≤ x1 then (RtI l D mX12_middle (zz ζ) [aP 97, aI x1, aI 2] h (fun r1 h1 => (0 ≤ x1 ∧ x1 < 6) ∧ RtI l D mX12_middle (zz ζ) [aP 97, aI x1, aI 3] (hu h1 104 x1 r1) (fun r2 h2 => G l (D + 1) 0 0 mX12_settle (zz ζ) 221 [aP 97, aI x1, aU, aI 0, aU, aU] [] (hu (hu h2 105 x1 r2) 103 x1 1) (qV (zz ζ) Q)))) else (G l (D + 1) 0 0 mX12_settle (zz ζ) 78 [aP 97, aI x1, aU, aU, aU, aU] [] h (qV (zz ζ) Q)))) else (G l (D + 1) 0 0 mX12_settle (zz ζ) 104 [aP 97, aI x1, aI x2, aI x3, aI 0, aI 0] [] h (qV (zz ζ) Q)))) : G l (D + 1) 0 0 mX12_settle (zz ζ) 88 [aP 97, aI x1, aI x2, aI x3, aU, aU] [] h (qV (zz ζ) Q) := by
  refine g_iload_n dX12_settle_88 rfl ?_
  refine g_aload_n dX12_settle_89 rfl ?_
  refine g_getR dX12_settle_90 fl_X12_33 sh_97 (al_97 hn) (fun _ _ _ => rfl) rf_97_6 ?_
  refine g_iconst dX12_settle_93 ?_
  refine g_iald dX12_settle_94 sh_99 (al_99 hn) (Nat.le_of_ble_eq_true rfl) (by decide) ?_
  obtain ⟨o1, w⟩ := w
  obtain ⟨o2, w⟩ := w
  refine g_cmp_ge (tgt := 181) dX12_settle_95 rfl o1 o2 ?_
  refine ite_imp (fun w => ?_) (fun w => ?_) w
  · refine g_iload_n dX12_settle_181 rfl ?_
    obtain ⟨o3, w⟩ := w
    refine g_if_ge (tgt := 188) dX12_settle_182 rfl o3 ?_
    refine ite_imp (fun w => ?_) (fun w => ?_) w
    · refine g_aload_n dX12_settle_188 rfl ?_
      refine g_getR dX12_settle_189 fl_X12_51 sh_97 (al_97 hn) (fun _ _ _ => rfl) rf_97_21 ?_
      refine g_iload_n dX12_settle_192 rfl ?_
      refine g_aload_n dX12_settle_193 rfl ?_
      refine g_iload_n dX12_settle_194 rfl ?_
      refine g_iconst dX12_settle_195 ?_
      refine g_callVI (n := 2) (As := [aI x1, aI 2]) (st := [aI x1, aP 104]) dX12_settle_196 ml_X12_317 sh_97 rfl (al_97 hn) rfl rfl (Nat.le_of_ble_eq_true rfl) (RtI.mono w (fun r1 h1 w => ?_))
      obtain ⟨o4, w⟩ := w
      refine g_iast dX12_settle_199 sh_104 (al_104 hn) (Nat.le_of_ble_eq_true rfl) o4 ?_
      refine g_aload_n dX12_settle_200 rfl ?_
      refine g_getR dX12_settle_201 fl_X12_54 sh_97 (al_97 hn) (fun _ _ _ => rfl) rf_97_22 ?_
      refine g_iload_n dX12_settle_204 rfl ?_
      refine g_aload_n dX12_settle_205 rfl ?_
      refine g_iload_n dX12_settle_206 rfl ?_
      refine g_iconst dX12_settle_207 ?_
      refine g_callVI (n := 2) (As := [aI x1, aI 3]) (st := [aI x1, aP 105]) dX12_settle_208 ml_X12_317 sh_97 rfl (al_97 hn) rfl rfl (Nat.le_of_ble_eq_true rfl) (RtI.mono w (fun r2 h2 w => ?_))
      refine g_iast dX12_settle_211 sh_105 (al_105 hn) (Nat.le_of_ble_eq_true rfl) o4 ?_
      refine g_aload_n dX12_settle_212 rfl ?_
      refine g_getR dX12_settle_213 fl_X12_47 sh_97 (al_97 hn) (fun _ _ _ => rfl) rf_97_20 ?_
      refine g_iload_n dX12_settle_216 rfl ?_
      refine g_iconst dX12_settle_217 ?_
      refine g_zast dX12_settle_218 sh_103 (al_103 hn) (Nat.le_of_ble_eq_true rfl) o4 (Or.inr rfl) ?_
      refine g_iconst dX12_settle_219 ?_
      refine g_istore_n (ls' := [aP 97, aI x1, aI x2, aI 0, aU, aU]) dX12_settle_220 (Nat.le_of_ble_eq_true rfl) rfl rfl ?_
      exact g_sub (ls' := [aP 97, aI x1, aU, aI 0, aU, aU]) ⟨Or.inr rfl, Or.inr rfl, Or.inl rfl, Or.inr rfl, Or.inl rfl, Or.inl rfl, trivial⟩ w
    · refine g_goto (tgt := 78) dX12_settle_185 rfl ?_
      exact g_sub (ls' := [aP 97, aI x1, aU, aU, aU, aU]) ⟨Or.inr rfl, Or.inr rfl, Or.inl rfl, Or.inl rfl, Or.inl rfl, Or.inl rfl, trivial⟩ w
  · refine g_iconst dX12_settle_98 ?_
    refine g_istore (ls' := [aP 97, aI x1, aI x2, aI x3, aI 0, aU]) dX12_settle_99 (Nat.le_of_ble_eq_true rfl) rfl rfl ?_
    refine g_iconst dX12_settle_101 ?_
    refine g_istore (ls' := [aP 97, aI x1, aI x2, aI x3, aI 0, aI 0]) dX12_settle_102 (Nat.le_of_ble_eq_true rfl) rfl rfl ?_
    exact g_sub (ls' := [aP 97, aI x1, aI x2, aI x3, aI 0, aI 0]) ⟨Or.inr rfl, Or.inr rfl, Or.inr rfl, Or.inr rfl, Or.inr rfl, Or.inr rfl, trivial⟩ w
theorem b_X12_settle_104 {l : Launch} {D : Nat} {ζ : ZP} {h : HI} {Q : HI → Prop} {x1 x2 x3 x4 x5 : Int} (hn : 144 ≤ ζ.2.2.2.2) (w : (rg x5) ∧ (rg (h 99 11)) ∧ (if (h 99 11) ≤ x5 then ((rg x4) ∧ (rg x2) ∧ (if x2 < x4 then (G l (D + 1) 0 0 mX12_settle (zz ζ) 88 [aP 97, aI x3, aI x4, aI (x3 + 1), aU, aU] [] h (qV (zz ζ) Q)) else (G l (D + 1) 0 0 mX12_settle (zz ζ) 88 [aP 97, aI x1, aI x2, aI (x3 + 1), aU, aU] [] h (qV (zz ζ) Q)))) else ((0 ≤ x3 ∧ x3 < 6) ∧ (rg (h 103 x3)) ∧ (if ¬ (h 103 x3) = 0 then ((rg x4) ∧ (rg x2) ∧ (if x2 < x4 then (G l (D + 1) 0 0 mX12_settle (zz ζ) 88 [aP 97, aI x3, aI x4, aI (x3 + 1), aU, aU] [] h (qV (zz ζ) Q)) else (G l (D + 1) 0 0 mX12_settle (zz ζ) 88 [aP 97, aI x1, aI x2, aI (x3 + 1), aU, aU] [] h (qV (zz ζ) Q)))) else ((0 ≤ x5 ∧ x5 < 60) ∧ (rg (h 109 x5)) ∧ (if (h 109 x5) ≤ 0 then (G l (D + 1) 0 0 mX12_settle (zz ζ) 104 [aP 97, aI x1, aI x2, aI x3, aI (x4 + 0), aI (x5 + 1)] [] h (qV (zz ζ) Q)) else (RtI l D mX12_firstOn (zz ζ) [aP 97, aI x5, aI x3] h (fun r1 h1 => (rg r1) ∧ (if r1 < 0 then (G l (D + 1) 0 0 mX12_settle (zz ζ) 104 [aP 97, aI x1, aI x2, aI x3, aI (x4 + 0), aI (x5 + 1)] [] h1 (qV (zz ζ) Q)) else (G l (D + 1) 0 0 mX12_settle (zz ζ) 104 [aP 97, aI x1, aI x2, aI x3, aI (x4 + 1), aI (x5 + 1)] [] h1 (qV (zz ζ) Q))))))))))) : G l (D + 1) 0 0 mX12_settle (zz ζ) 104 [aP 97, aI x1, aI x2, aI x3, aI x4, aI x5] [] h (qV (zz ζ) Q) := by
  refine g_iload dX12_settle_104 rfl ?_
  refine g_aload_n dX12_settle_106 rfl ?_
  refine g_getR dX12_settle_107 fl_X12_33 sh_97 (al_97 hn) (fun _ _ _ => rfl) rf_97_6 ?_
  refine g_bipush dX12_settle_110 rfl ?_
  refine g_iald dX12_settle_112 sh_99 (al_99 hn) (Nat.le_of_ble_eq_true rfl) (by decide) ?_
  obtain ⟨o1, w⟩ := w
  obtain ⟨o2, w⟩ := w
  refine g_cmp_ge (tgt := 161) dX12_settle_113 rfl o1 o2 ?_
  refine ite_imp (fun w => ?_) (fun w => ?_) w
  · refine g_iload dX12_settle_161 rfl ?_
    refine g_iload_n dX12_settle_163 rfl ?_
    obtain ⟨o3, w⟩ := w
    obtain ⟨o4, w⟩ := w
    refine g_cmp_gt (tgt := 170) dX12_settle_164 rfl o3 o4 ?_
    refine ite_imp (fun w => ?_) (fun w => ?_) w
    · refine g_iload dX12_settle_170 rfl ?_
      refine g_istore_n (ls' := [aP 97, aI x1, aI x4, aI x3, aI x4, aI x5]) dX12_settle_172 (Nat.le_of_ble_eq_true rfl) rfl rfl ?_
      refine g_iload_n dX12_settle_173 rfl ?_
      refine g_istore_n (ls' := [aP 97, aI x3, aI x4, aI x3, aI x4, aI x5]) dX12_settle_174 (Nat.le_of_ble_eq_true rfl) rfl rfl ?_
      refine g_iinc (ls' := [aP 97, aI x3, aI x4, aI (x3 + 1), aI x4, aI x5]) dX12_settle_175 rfl (Nat.le_of_ble_eq_true rfl) rfl rfl ?_
      refine g_goto (tgt := 88) dX12_settle_178 rfl ?_
      exact g_sub (ls' := [aP 97, aI x3, aI x4, aI (x3 + 1), aU, aU]) ⟨Or.inr rfl, Or.inr rfl, Or.inr rfl, Or.inr rfl, Or.inl rfl, Or.inl rfl, trivial⟩ w
    · refine g_goto (tgt := 175) dX12_settle_167 rfl ?_
      refine g_iinc (ls' := [aP 97, aI x1, aI x2, aI (x3 + 1), aI x4, aI x5]) dX12_settle_175 rfl (Nat.le_of_ble_eq_true rfl) rfl rfl ?_
      refine g_goto (tgt := 88) dX12_settle_178 rfl ?_
      exact g_sub (ls' := [aP 97, aI x1, aI x2, aI (x3 + 1), aU, aU]) ⟨Or.inr rfl, Or.inr rfl, Or.inr rfl, Or.inr rfl, Or.inl rfl, Or.inl rfl, trivial⟩ w
  · refine g_aload_n dX12_settle_116 rfl ?_
    refine g_getR dX12_settle_117 fl_X12_47 sh_97 (al_97 hn) (fun _ _ _ => rfl) rf_97_20 ?_
    refine g_iload_n dX12_settle_120 rfl ?_
    obtain ⟨o5, w⟩ := w
    refine g_zald dX12_settle_121 sh_103 (al_103 hn) (Nat.le_of_ble_eq_true rfl) o5 ?_
    obtain ⟨o6, w⟩ := w
    refine g_if_ne (tgt := 161) dX12_settle_122 rfl o6 ?_
    refine ite_imp (fun w => ?_) (fun w => ?_) w
    · refine g_iload dX12_settle_161 rfl ?_
      refine g_iload_n dX12_settle_163 rfl ?_
      obtain ⟨o7, w⟩ := w
      obtain ⟨o8, w⟩ := w
      refine g_cmp_gt (tgt := 170) dX12_settle_164 rfl o7 o8 ?_
      refine ite_imp (fun w => ?_) (fun w => ?_) w
      · refine g_iload dX12_settle_170 rfl ?_
        refine g_istore_n (ls' := [aP 97, aI x1, aI x4, aI x3, aI x4, aI x5]) dX12_settle_172 (Nat.le_of_ble_eq_true rfl) rfl rfl ?_
        refine g_iload_n dX12_settle_173 rfl ?_
        refine g_istore_n (ls' := [aP 97, aI x3, aI x4, aI x3, aI x4, aI x5]) dX12_settle_174 (Nat.le_of_ble_eq_true rfl) rfl rfl ?_
        refine g_iinc (ls' := [aP 97, aI x3, aI x4, aI (x3 + 1), aI x4, aI x5]) dX12_settle_175 rfl (Nat.le_of_ble_eq_true rfl) rfl rfl ?_
        refine g_goto (tgt := 88) dX12_settle_178 rfl ?_
        exact g_sub (ls' := [aP 97, aI x3, aI x4, aI (x3 + 1), aU, aU]) ⟨Or.inr rfl, Or.inr rfl, Or.inr rfl, Or.inr rfl, Or.inl rfl, Or.inl rfl, trivial⟩ w
      · refine g_goto (tgt := 175) dX12_settle_167 rfl ?_
        refine g_iinc (ls' := [aP 97, aI x1, aI x2, aI (x3 + 1), aI x4, aI x5]) dX12_settle_175 rfl (Nat.le_of_ble_eq_true rfl) rfl rfl ?_
        refine g_goto (tgt := 88) dX12_settle_178 rfl ?_
        exact g_sub (ls' := [aP 97, aI x1, aI x2, aI (x3 + 1), aU, aU]) ⟨Or.inr rfl, Or.inr rfl, Or.inr rfl, Or.inr rfl, Or.inl rfl, Or.inl rfl, trivial⟩ w
    · refine g_iload dX12_settle_125 rfl ?_
      refine g_aload_n dX12_settle_127 rfl ?_
      refine g_getR dX12_settle_128 fl_X12_66 sh_97 (al_97 hn) (fun _ _ _ => rfl) rf_97_26 ?_
      refine g_iload dX12_settle_131 rfl ?_
      obtain ⟨o9, w⟩ := w
      refine g_iald dX12_settle_133 sh_109 (al_109 hn) (Nat.le_of_ble_eq_true rfl) o9 ?_
      obtain ⟨o10, w⟩ := w
      refine g_if_le (tgt := 151) dX12_settle_134 rfl o10 ?_
      refine ite_imp (fun w => ?_) (fun w => ?_) w
      · refine g_iconst dX12_settle_151 ?_
        refine g_iadd dX12_settle_152 ?_
        refine g_istore (ls' := [aP 97, aI x1, aI x2, aI x3, aI (x4 + 0), aI x5]) dX12_settle_153 (Nat.le_of_ble_eq_true rfl) rfl rfl ?_
        refine g_iinc (ls' := [aP 97, aI x1, aI x2, aI x3, aI (x4 + 0), aI (x5 + 1)]) dX12_settle_155 rfl (Nat.le_of_ble_eq_true rfl) rfl rfl ?_
        refine g_goto (tgt := 104) dX12_settle_158 rfl ?_
        exact g_sub (ls' := [aP 97, aI x1, aI x2, aI x3, aI (x4 + 0), aI (x5 + 1)]) ⟨Or.inr rfl, Or.inr rfl, Or.inr rfl, Or.inr rfl, Or.inr rfl, Or.inr rfl, trivial⟩ w
      · refine g_aload_n dX12_settle_137 rfl ?_
        refine g_iload dX12_settle_138 rfl ?_
        refine g_iload_n dX12_settle_140 rfl ?_
        refine g_callVI (n := 2) (As := [aI x5, aI x3]) (st := [aI x4]) dX12_settle_141 ml_X12_314 sh_97 rfl (al_97 hn) rfl rfl (Nat.le_of_ble_eq_true rfl) (RtI.mono w (fun r1 h1 w => ?_))
        obtain ⟨o11, w⟩ := w
        refine g_if_lt (tgt := 151) dX12_settle_144 rfl o11 ?_
        refine ite_imp (fun w => ?_) (fun w => ?_) w
        · refine g_iconst dX12_settle_151 ?_
          refine g_iadd dX12_settle_152 ?_
          refine g_istore (ls' := [aP 97, aI x1, aI x2, aI x3, aI (x4 + 0), aI x5]) dX12_settle_153 (Nat.le_of_ble_eq_true rfl) rfl rfl ?_
          refine g_iinc (ls' := [aP 97, aI x1, aI x2, aI x3, aI (x4 + 0), aI (x5 + 1)]) dX12_settle_155 rfl (Nat.le_of_ble_eq_true rfl) rfl rfl ?_
          refine g_goto (tgt := 104) dX12_settle_158 rfl ?_
          exact g_sub (ls' := [aP 97, aI x1, aI x2, aI x3, aI (x4 + 0), aI (x5 + 1)]) ⟨Or.inr rfl, Or.inr rfl, Or.inr rfl, Or.inr rfl, Or.inr rfl, Or.inr rfl, trivial⟩ w
        · refine g_iconst dX12_settle_147 ?_
          refine g_goto (tgt := 152) dX12_settle_148 rfl ?_
          refine g_iadd dX12_settle_152 ?_
          refine g_istore (ls' := [aP 97, aI x1, aI x2, aI x3, aI (x4 + 1), aI x5]) dX12_settle_153 (Nat.le_of_ble_eq_true rfl) rfl rfl ?_
          refine g_iinc (ls' := [aP 97, aI x1, aI x2, aI x3, aI (x4 + 1), aI (x5 + 1)]) dX12_settle_155 rfl (Nat.le_of_ble_eq_true rfl) rfl rfl ?_
          refine g_goto (tgt := 104) dX12_settle_158 rfl ?_
          exact g_sub (ls' := [aP 97, aI x1, aI x2, aI x3, aI (x4 + 1), aI (x5 + 1)]) ⟨Or.inr rfl, Or.inr rfl, Or.inr rfl, Or.inr rfl, Or.inr rfl, Or.inr rfl, trivial⟩ w
theorem b_X12_settle_221 {l : Launch} {D : Nat} {ζ : ZP} {h : HI} {Q : HI → Prop} {x1 x3 : Int} (hn : 144 ≤ ζ.2.2.2.2) (w : (rg x3) ∧ (rg (h 99 11)) ∧ (if (h 99 11) ≤ x3 then (G l (D + 1) 0 0 mX12_settle (zz ζ) 78 [aP 97, aI x1, aU, aU, aU, aU] [] h (qV (zz ζ) Q)) else (RtV l D mX12_trueOf (zz ζ) [aP 97, aI x3] h (fun h1 => G l (D + 1) 0 0 mX12_settle (zz ζ) 221 [aP 97, aI x1, aU, aI (x3 + 1), aU, aU] [] h1 (qV (zz ζ) Q))))) : G l (D + 1) 0 0 mX12_settle (zz ζ) 221 [aP 97, aI x1, aU, aI x3, aU, aU] [] h (qV (zz ζ) Q) := by
  refine g_iload_n dX12_settle_221 rfl ?_
  refine g_aload_n dX12_settle_222 rfl ?_
  refine g_getR dX12_settle_223 fl_X12_33 sh_97 (al_97 hn) (fun _ _ _ => rfl) rf_97_6 ?_
  refine g_bipush dX12_settle_226 rfl ?_
  refine g_iald dX12_settle_228 sh_99 (al_99 hn) (Nat.le_of_ble_eq_true rfl) (by decide) ?_
  obtain ⟨o1, w⟩ := w
  obtain ⟨o2, w⟩ := w
  refine g_cmp_ge (tgt := 243) dX12_settle_229 rfl o1 o2 ?_
  refine ite_imp (fun w => ?_) (fun w => ?_) w
  · refine g_goto (tgt := 78) dX12_settle_243 rfl ?_
    exact g_sub (ls' := [aP 97, aI x1, aU, aU, aU, aU]) ⟨Or.inr rfl, Or.inr rfl, Or.inl rfl, Or.inl rfl, Or.inl rfl, Or.inl rfl, trivial⟩ w
  · refine g_aload_n dX12_settle_232 rfl ?_
    refine g_iload_n dX12_settle_233 rfl ?_
    refine g_callVV (n := 1) (As := [aI x3]) (st := []) dX12_settle_234 ml_X12_311 sh_97 rfl (al_97 hn) rfl rfl (Nat.le_of_ble_eq_true rfl) (RtV.mono w (fun h1 w => ?_))
    refine g_iinc (ls' := [aP 97, aI x1, aU, aI (x3 + 1), aU, aU]) dX12_settle_237 rfl (Nat.le_of_ble_eq_true rfl) rfl rfl ?_
    refine g_goto (tgt := 221) dX12_settle_240 rfl ?_
    exact g_sub (ls' := [aP 97, aI x1, aU, aI (x3 + 1), aU, aU]) ⟨Or.inr rfl, Or.inr rfl, Or.inl rfl, Or.inr rfl, Or.inl rfl, Or.inl rfl, trivial⟩ w
theorem e_X12_settle {l : Launch} {D : Nat} {ζ : ZP} {h : HI} {Q : HI → Prop} (hn : 144 ≤ ζ.2.2.2.2) (w : G l (D + 1) 0 0 mX12_settle (zz ζ) 2 [aP 97, aI 0, aU, aU, aU, aU] [] h (qV (zz ζ) Q)) : RtV l (D + 1) mX12_settle (zz ζ) [aP 97] h Q := by
  refine RtV.of 5 pn_X12 [aP 97, aU, aU, aU, aU, aU] rfl rfl ?_
  refine g_iconst dX12_settle_0 ?_
  refine g_istore_n (ls' := [aP 97, aI 0, aU, aU, aU, aU]) dX12_settle_1 (Nat.le_of_ble_eq_true rfl) rfl rfl ?_
  exact g_sub (ls' := [aP 97, aI 0, aU, aU, aU, aU]) ⟨Or.inr rfl, Or.inr rfl, Or.inl rfl, Or.inl rfl, Or.inl rfl, Or.inl rfl, trivial⟩ w
theorem b_X12_middle_5 {l : Launch} {D : Nat} {ζ : ZP} {h : HI} {Q : Int → HI → Prop} {x1 x2 x3 x4 : Int} (hn : 144 ≤ ζ.2.2.2.2) (w : (rg x4) ∧ (rg (h 99 11)) ∧ (if (h 99 11) ≤ x4 then ((rg (x3 - 1)) ∧ (0 ≤ ((x3 - 1).tdiv 2) ∧ ((x3 - 1).tdiv 2) < 60) ∧ Q (h 110 ((x3 - 1).tdiv 2)) h) else (RtI l D mX12_firstOn (zz ζ) [aP 97, aI x4, aI x1] h (fun r1 h1 => (0 ≤ x4 ∧ x4 < 60) ∧ (rg (h1 109 x4)) ∧ (if (h1 109 x4) = 0 then (G l (D + 1) 0 0 mX12_middle (zz ζ) 5 [aP 97, aI x1, aI x2, aI x3, aI (x4 + 1), aU, aU, aU] [] h1 (qI (zz ζ) Q)) else ((rg r1) ∧ (if 0 ≤ r1 then ((0 ≤ ((77 + (4 * r1)) + x2) ∧ ((77 + (4 * r1)) + x2) < 2819) ∧ (rg x2) ∧ (if ¬ x2 = 2 then (G l (D + 1) 0 0 mX12_middle (zz ζ) 86 [aP 97, aI x1, aI x2, aI x3, aI x4, aU, aI ((h1 99 ((77 + (4 * r1)) + x2)) - (h1 107 x4)), aI x3] [] h1 (qI (zz ζ) Q)) else (G l (D + 1) 0 0 mX12_middle (zz ζ) 86 [aP 97, aI x1, aI x2, aI x3, aI x4, aU, aI ((h1 99 ((77 + (4 * r1)) + x2)) - (h1 106 x4)), aI x3] [] h1 (qI (zz ζ) Q)))) else (G l (D + 1) 0 0 mX12_middle (zz ζ) 5 [aP 97, aI x1, aI x2, aI x3, aI (x4 + 1), aU, aU, aU] [] h1 (qI (zz ζ) Q))))))))) : G l (D + 1) 0 0 mX12_middle (zz ζ) 5 [aP 97, aI x1, aI x2, aI x3, aI x4, aU, aU, aU] [] h (qI (zz ζ) Q) := by
  refine g_iload dX12_middle_5 rfl ?_
  refine g_aload_n dX12_middle_7 rfl ?_
  refine g_getR dX12_middle_8 fl_X12_33 sh_97 (al_97 hn) (fun _ _ _ => rfl) rf_97_6 ?_
  refine g_bipush dX12_middle_11 rfl ?_
  refine g_iald dX12_middle_13 sh_99 (al_99 hn) (Nat.le_of_ble_eq_true rfl) (by decide) ?_
  obtain ⟨o1, w⟩ := w
  obtain ⟨o2, w⟩ := w
  refine g_cmp_ge (tgt := 145) dX12_middle_14 rfl o1 o2 ?_
  refine ite_imp (fun w => ?_) (fun w => ?_) w
  · refine g_aload_n dX12_middle_145 rfl ?_
    refine g_getR dX12_middle_146 fl_X12_69 sh_97 (al_97 hn) (fun _ _ _ => rfl) rf_97_27 ?_
    refine g_iload_n dX12_middle_149 rfl ?_
    refine g_iconst dX12_middle_150 ?_
    refine g_isub dX12_middle_151 ?_
    refine g_iconst dX12_middle_152 ?_
    obtain ⟨o3, w⟩ := w
    refine g_idiv dX12_middle_153 o3 (by decide) (by decide) ?_
    obtain ⟨o4, w⟩ := w
    refine g_iald dX12_middle_154 sh_110 (al_110 hn) (Nat.le_of_ble_eq_true rfl) o4 ?_
    exact g_retI dX12_middle_155 rfl w
  · refine g_aload_n dX12_middle_17 rfl ?_
    refine g_iload dX12_middle_18 rfl ?_
    refine g_iload_n dX12_middle_20 rfl ?_
    refine g_callVI (n := 2) (As := [aI x4, aI x1]) (st := []) dX12_middle_21 ml_X12_314 sh_97 rfl (al_97 hn) rfl rfl (Nat.le_of_ble_eq_true rfl) (RtI.mono w (fun r1 h1 w => ?_))
    refine g_istore (ls' := [aP 97, aI x1, aI x2, aI x3, aI x4, aI r1, aU, aU]) dX12_middle_24 (Nat.le_of_ble_eq_true rfl) rfl rfl ?_
    refine g_aload_n dX12_middle_26 rfl ?_
    refine g_getR dX12_middle_27 fl_X12_66 sh_97 (al_97 hn) (fun _ _ _ => rfl) rf_97_26 ?_
    refine g_iload dX12_middle_30 rfl ?_
    obtain ⟨o5, w⟩ := w
    refine g_iald dX12_middle_32 sh_109 (al_109 hn) (Nat.le_of_ble_eq_true rfl) o5 ?_
    obtain ⟨o6, w⟩ := w
    refine g_if_eq (tgt := 139) dX12_middle_33 rfl o6 ?_
    refine ite_imp (fun w => ?_) (fun w => ?_) w
    · refine g_iinc (ls' := [aP 97, aI x1, aI x2, aI x3, aI (x4 + 1), aI r1, aU, aU]) dX12_middle_139 rfl (Nat.le_of_ble_eq_true rfl) rfl rfl ?_
      refine g_goto (tgt := 5) dX12_middle_142 rfl ?_
      exact g_sub (ls' := [aP 97, aI x1, aI x2, aI x3, aI (x4 + 1), aU, aU, aU]) ⟨Or.inr rfl, Or.inr rfl, Or.inr rfl, Or.inr rfl, Or.inr rfl, Or.inl rfl, Or.inl rfl, Or.inl rfl, trivial⟩ w
    · refine g_iload dX12_middle_36 rfl ?_
      obtain ⟨o7, w⟩ := w
      refine g_if_ge (tgt := 44) dX12_middle_38 rfl o7 ?_
      refine ite_imp (fun w => ?_) (fun w => ?_) w
      · refine g_aload_n dX12_middle_44 rfl ?_
        refine g_getR dX12_middle_45 fl_X12_33 sh_97 (al_97 hn) (fun _ _ _ => rfl) rf_97_6 ?_
        refine g_bipush dX12_middle_48 rfl ?_
        refine g_iconst dX12_middle_50 ?_
        refine g_iload dX12_middle_51 rfl ?_
        refine g_imul dX12_middle_53 ?_
        refine g_iadd dX12_middle_54 ?_
        refine g_iload_n dX12_middle_55 rfl ?_
        refine g_iadd dX12_middle_56 ?_
        obtain ⟨o8, w⟩ := w
        refine g_iald dX12_middle_57 sh_99 (al_99 hn) (Nat.le_of_ble_eq_true rfl) o8 ?_
        refine g_iload_n dX12_middle_58 rfl ?_
        refine g_iconst dX12_middle_59 ?_
        obtain ⟨o9, w⟩ := w
        refine g_cmp_ne (tgt := 73) dX12_middle_60 rfl o9 (by decide) ?_
        refine ite_imp (fun w => ?_) (fun w => ?_) w
        · refine g_aload_n dX12_middle_73 rfl ?_
          refine g_getR dX12_middle_74 fl_X12_60 sh_97 (al_97 hn) (fun _ _ _ => rfl) rf_97_24 ?_
          refine g_iload dX12_middle_77 rfl ?_
          refine g_iald dX12_middle_79 sh_107 (al_107 hn) (Nat.le_of_ble_eq_true rfl) o5 ?_
          refine g_isub dX12_middle_80 ?_
          refine g_istore (ls' := [aP 97, aI x1, aI x2, aI x3, aI x4, aI r1, aI ((h1 99 ((77 + (4 * r1)) + x2)) - (h1 107 x4)), aU]) dX12_middle_81 (Nat.le_of_ble_eq_true rfl) rfl rfl ?_
          refine g_iload_n dX12_middle_83 rfl ?_
          refine g_istore (ls' := [aP 97, aI x1, aI x2, aI x3, aI x4, aI r1, aI ((h1 99 ((77 + (4 * r1)) + x2)) - (h1 107 x4)), aI x3]) dX12_middle_84 (Nat.le_of_ble_eq_true rfl) rfl rfl ?_
          exact g_sub (ls' := [aP 97, aI x1, aI x2, aI x3, aI x4, aU, aI ((h1 99 ((77 + (4 * r1)) + x2)) - (h1 107 x4)), aI x3]) ⟨Or.inr rfl, Or.inr rfl, Or.inr rfl, Or.inr rfl, Or.inr rfl, Or.inl rfl, Or.inr rfl, Or.inr rfl, trivial⟩ w
        · refine g_aload_n dX12_middle_63 rfl ?_
          refine g_getR dX12_middle_64 fl_X12_57 sh_97 (al_97 hn) (fun _ _ _ => rfl) rf_97_23 ?_
          refine g_iload dX12_middle_67 rfl ?_
          refine g_iald dX12_middle_69 sh_106 (al_106 hn) (Nat.le_of_ble_eq_true rfl) o5 ?_
          refine g_goto (tgt := 80) dX12_middle_70 rfl ?_
          refine g_isub dX12_middle_80 ?_
          refine g_istore (ls' := [aP 97, aI x1, aI x2, aI x3, aI x4, aI r1, aI ((h1 99 ((77 + (4 * r1)) + x2)) - (h1 106 x4)), aU]) dX12_middle_81 (Nat.le_of_ble_eq_true rfl) rfl rfl ?_
          refine g_iload_n dX12_middle_83 rfl ?_
          refine g_istore (ls' := [aP 97, aI x1, aI x2, aI x3, aI x4, aI r1, aI ((h1 99 ((77 + (4 * r1)) + x2)) - (h1 106 x4)), aI x3]) dX12_middle_84 (Nat.le_of_ble_eq_true rfl) rfl rfl ?_
          exact g_sub (ls' := [aP 97, aI x1, aI x2, aI x3, aI x4, aU, aI ((h1 99 ((77 + (4 * r1)) + x2)) - (h1 106 x4)), aI x3]) ⟨Or.inr rfl, Or.inr rfl, Or.inr rfl, Or.inr rfl, Or.inr rfl, Or.inl rfl, Or.inr rfl, Or.inr rfl, trivial⟩ w
      · refine g_goto (tgt := 139) dX12_middle_41 rfl ?_
        refine g_iinc (ls' := [aP 97, aI x1, aI x2, aI x3, aI (x4 + 1), aI r1, aU, aU]) dX12_middle_139 rfl (Nat.le_of_ble_eq_true rfl) rfl rfl ?_
        refine g_goto (tgt := 5) dX12_middle_142 rfl ?_
        exact g_sub (ls' := [aP 97, aI x1, aI x2, aI x3, aI (x4 + 1), aU, aU, aU]) ⟨Or.inr rfl, Or.inr rfl, Or.inr rfl, Or.inr rfl, Or.inr rfl, Or.inl rfl, Or.inl rfl, Or.inl rfl, trivial⟩ w
theorem b_X12_middle_86 {l : Launch} {D : Nat} {ζ : ZP} {h : HI} {Q : Int → HI → Prop} {x1 x2 x3 x4 x6 x7 : Int} (hn : 144 ≤ ζ.2.2.2.2) (w : (rg x7) ∧ (if x7 ≤ 0 then ((0 ≤ x7 ∧ x7 < 60) ∧ G l (D + 1) 0 0 mX12_middle (zz ζ) 5 [aP 97, aI x1, aI x2, aI (x3 + 1), aI (x4 + 1), aU, aU, aU] [] (hu h 110 x7 x6) (qI (zz ζ) Q)) else ((0 ≤ (x7 - 1) ∧ (x7 - 1) < 60) ∧ (rg (h 110 (x7 - 1))) ∧ (rg x6) ∧ (if (h 110 (x7 - 1)) ≤ x6 then ((0 ≤ x7 ∧ x7 < 60) ∧ G l (D + 1) 0 0 mX12_middle (zz ζ) 5 [aP 97, aI x1, aI x2, aI (x3 + 1), aI (x4 + 1), aU, aU, aU] [] (hu h 110 x7 x6) (qI (zz ζ) Q)) else ((0 ≤ x7 ∧ x7 < 60) ∧ G l (D + 1) 0 0 mX12_middle (zz ζ) 86 [aP 97, aI x1, aI x2, aI x3, aI x4, aU, aI x6, aI (x7 + (-1))] [] (hu h 110 x7 (h 110 (x7 - 1))) (qI (zz ζ) Q)))))) : G l (D + 1) 0 0 mX12_middle (zz ζ) 86 [aP 97, aI x1, aI x2, aI x3, aI x4, aU, aI x6, aI x7] [] h (qI (zz ζ) Q) := by
  refine g_iload dX12_middle_86 rfl ?_
  obtain ⟨o1, w⟩ := w
  refine g_if_le (tgt := 127) dX12_middle_88 rfl o1 ?_
  refine ite_imp (fun w => ?_) (fun w => ?_) w
  · refine g_aload_n dX12_middle_127 rfl ?_
    refine g_getR dX12_middle_128 fl_X12_69 sh_97 (al_97 hn) (fun _ _ _ => rfl) rf_97_27 ?_
    refine g_iload dX12_middle_131 rfl ?_
    refine g_iload dX12_middle_133 rfl ?_
    obtain ⟨o2, w⟩ := w
    refine g_iast dX12_middle_135 sh_110 (al_110 hn) (Nat.le_of_ble_eq_true rfl) o2 ?_
    refine g_iinc (ls' := [aP 97, aI x1, aI x2, aI (x3 + 1), aI x4, aU, aI x6, aI x7]) dX12_middle_136 rfl (Nat.le_of_ble_eq_true rfl) rfl rfl ?_
    refine g_iinc (ls' := [aP 97, aI x1, aI x2, aI (x3 + 1), aI (x4 + 1), aU, aI x6, aI x7]) dX12_middle_139 rfl (Nat.le_of_ble_eq_true rfl) rfl rfl ?_
    refine g_goto (tgt := 5) dX12_middle_142 rfl ?_
    exact g_sub (ls' := [aP 97, aI x1, aI x2, aI (x3 + 1), aI (x4 + 1), aU, aU, aU]) ⟨Or.inr rfl, Or.inr rfl, Or.inr rfl, Or.inr rfl, Or.inr rfl, Or.inl rfl, Or.inl rfl, Or.inl rfl, trivial⟩ w
  · refine g_aload_n dX12_middle_91 rfl ?_
    refine g_getR dX12_middle_92 fl_X12_69 sh_97 (al_97 hn) (fun _ _ _ => rfl) rf_97_27 ?_
    refine g_iload dX12_middle_95 rfl ?_
    refine g_iconst dX12_middle_97 ?_
    refine g_isub dX12_middle_98 ?_
    obtain ⟨o3, w⟩ := w
    refine g_iald dX12_middle_99 sh_110 (al_110 hn) (Nat.le_of_ble_eq_true rfl) o3 ?_
    refine g_iload dX12_middle_100 rfl ?_
    obtain ⟨o4, w⟩ := w
    obtain ⟨o5, w⟩ := w
    refine g_cmp_le (tgt := 127) dX12_middle_102 rfl o4 o5 ?_
    refine ite_imp (fun w => ?_) (fun w => ?_) w
    · refine g_aload_n dX12_middle_127 rfl ?_
      refine g_getR dX12_middle_128 fl_X12_69 sh_97 (al_97 hn) (fun _ _ _ => rfl) rf_97_27 ?_
      refine g_iload dX12_middle_131 rfl ?_
      refine g_iload dX12_middle_133 rfl ?_
      obtain ⟨o6, w⟩ := w
      refine g_iast dX12_middle_135 sh_110 (al_110 hn) (Nat.le_of_ble_eq_true rfl) o6 ?_
      refine g_iinc (ls' := [aP 97, aI x1, aI x2, aI (x3 + 1), aI x4, aU, aI x6, aI x7]) dX12_middle_136 rfl (Nat.le_of_ble_eq_true rfl) rfl rfl ?_
      refine g_iinc (ls' := [aP 97, aI x1, aI x2, aI (x3 + 1), aI (x4 + 1), aU, aI x6, aI x7]) dX12_middle_139 rfl (Nat.le_of_ble_eq_true rfl) rfl rfl ?_
      refine g_goto (tgt := 5) dX12_middle_142 rfl ?_
      exact g_sub (ls' := [aP 97, aI x1, aI x2, aI (x3 + 1), aI (x4 + 1), aU, aU, aU]) ⟨Or.inr rfl, Or.inr rfl, Or.inr rfl, Or.inr rfl, Or.inr rfl, Or.inl rfl, Or.inl rfl, Or.inl rfl, trivial⟩ w
    · refine g_aload_n dX12_middle_105 rfl ?_
      refine g_getR dX12_middle_106 fl_X12_69 sh_97 (al_97 hn) (fun _ _ _ => rfl) rf_97_27 ?_
      refine g_iload dX12_middle_109 rfl ?_
      refine g_aload_n dX12_middle_111 rfl ?_
      refine g_getR dX12_middle_112 fl_X12_69 sh_97 (al_97 hn) (fun _ _ _ => rfl) rf_97_27 ?_
      refine g_iload dX12_middle_115 rfl ?_
      refine g_iconst dX12_middle_117 ?_
      refine g_isub dX12_middle_118 ?_
      refine g_iald dX12_middle_119 sh_110 (al_110 hn) (Nat.le_of_ble_eq_true rfl) o3 ?_
      obtain ⟨o7, w⟩ := w
      refine g_iast dX12_middle_120 sh_110 (al_110 hn) (Nat.le_of_ble_eq_true rfl) o7 ?_
      refine g_iinc (ls' := [aP 97, aI x1, aI x2, aI x3, aI x4, aU, aI x6, aI (x7 + (-1))]) dX12_middle_121 rfl (Nat.le_of_ble_eq_true rfl) rfl rfl ?_
      refine g_goto (tgt := 86) dX12_middle_124 rfl ?_
      exact g_sub (ls' := [aP 97, aI x1, aI x2, aI x3, aI x4, aU, aI x6, aI (x7 + (-1))]) ⟨Or.inr rfl, Or.inr rfl, Or.inr rfl, Or.inr rfl, Or.inr rfl, Or.inl rfl, Or.inr rfl, Or.inr rfl, trivial⟩ w
theorem e_X12_middle {l : Launch} {D : Nat} {ζ : ZP} {h : HI} {Q : Int → HI → Prop} {x1 x2 : Int} (hn : 144 ≤ ζ.2.2.2.2) (w : G l (D + 1) 0 0 mX12_middle (zz ζ) 5 [aP 97, aI x1, aI x2, aI 0, aI 0, aU, aU, aU] [] h (qI (zz ζ) Q)) : RtI l (D + 1) mX12_middle (zz ζ) [aP 97, aI x1, aI x2] h Q := by
  refine RtI.of 5 pn_X12 [aP 97, aI x1, aI x2, aU, aU, aU, aU, aU] rfl rfl ?_
  refine g_iconst dX12_middle_0 ?_
  refine g_istore_n (ls' := [aP 97, aI x1, aI x2, aI 0, aU, aU, aU, aU]) dX12_middle_1 (Nat.le_of_ble_eq_true rfl) rfl rfl ?_
  refine g_iconst dX12_middle_2 ?_
  refine g_istore (ls' := [aP 97, aI x1, aI x2, aI 0, aI 0, aU, aU, aU]) dX12_middle_3 (Nat.le_of_ble_eq_true rfl) rfl rfl ?_
  exact g_sub (ls' := [aP 97, aI x1, aI x2, aI 0, aI 0, aU, aU, aU]) ⟨Or.inr rfl, Or.inr rfl, Or.inr rfl, Or.inr rfl, Or.inr rfl, Or.inl rfl, Or.inl rfl, Or.inl rfl, trivial⟩ w
theorem b_X12_lean_31 {l : Launch} {D : Nat} {ζ : ZP} {h : HI} {Q : Int → HI → Prop} {s0 x1 x2 : Int} (hn : 144 ≤ ζ.2.2.2.2) (w : RtI l D mX12_throwsIf (zz ζ) [aP 97, aI s0] h (fun r1 h1 => (rg r1) ∧ (if r1 = 0 then (RtV l D mX12_settle (zz ζ) [aP 97] h1 (fun h2 => (rg x2) ∧ (if ¬ x2 = 0 then (if ¬ x2 = 1 then ((0 ≤ x1 ∧ x1 < 6) ∧ (rg (h2 103 x1)) ∧ (if (h2 103 x1) = 0 then (Q 0 h2) else (Q 1 h2))) else ((0 ≤ x1 ∧ x1 < 6) ∧ Q (h2 105 x1) h2)) else ((0 ≤ x1 ∧ x1 < 6) ∧ Q (h2 104 x1) h2)))) else (Q 0 h1)))) : G l (D + 1) 0 0 mX12_lean (zz ζ) 31 [aP 97, aI x1, aI x2] [aI s0, aP 97] h (qI (zz ζ) Q) := by
  refine g_callVI (n := 1) (As := [aI s0]) (st := []) dX12_lean_31 ml_X12_320 sh_97 rfl (al_97 hn) rfl rfl (Nat.le_of_ble_eq_true rfl) (RtI.mono w (fun r1 h1 w => ?_))
  obtain ⟨o1, w⟩ := w
  refine g_if_eq (tgt := 39) dX12_lean_34 rfl o1 ?_
  refine ite_imp (fun w => ?_) (fun w => ?_) w
  · refine g_aload_n dX12_lean_39 rfl ?_
    refine g_callVV (n := 0) (As := []) (st := []) dX12_lean_40 ml_X12_324 sh_97 rfl (al_97 hn) rfl rfl (Nat.le_of_ble_eq_true rfl) (RtV.mono w (fun h2 w => ?_))
    refine g_iload_n dX12_lean_43 rfl ?_
    obtain ⟨o2, w⟩ := w
    refine g_if_ne (tgt := 56) dX12_lean_44 rfl o2 ?_
    refine ite_imp (fun w => ?_) (fun w => ?_) w
    · refine g_iload_n dX12_lean_56 rfl ?_
      refine g_iconst dX12_lean_57 ?_
      refine g_cmp_ne (tgt := 70) dX12_lean_58 rfl o2 (by decide) ?_
      refine ite_imp (fun w => ?_) (fun w => ?_) w
      · refine g_aload_n dX12_lean_70 rfl ?_
        refine g_getR dX12_lean_71 fl_X12_47 sh_97 (al_97 hn) (fun _ _ _ => rfl) rf_97_20 ?_
        refine g_iload_n dX12_lean_74 rfl ?_
        obtain ⟨o3, w⟩ := w
        refine g_zald dX12_lean_75 sh_103 (al_103 hn) (Nat.le_of_ble_eq_true rfl) o3 ?_
        obtain ⟨o4, w⟩ := w
        refine g_if_eq (tgt := 83) dX12_lean_76 rfl o4 ?_
        refine ite_imp (fun w => ?_) (fun w => ?_) w
        · refine g_iconst dX12_lean_83 ?_
          exact g_retI dX12_lean_84 rfl w
        · refine g_iconst dX12_lean_79 ?_
          refine g_goto (tgt := 84) dX12_lean_80 rfl ?_
          exact g_retI dX12_lean_84 rfl w
      · refine g_aload_n dX12_lean_61 rfl ?_
        refine g_getR dX12_lean_62 fl_X12_54 sh_97 (al_97 hn) (fun _ _ _ => rfl) rf_97_22 ?_
        refine g_iload_n dX12_lean_65 rfl ?_
        obtain ⟨o5, w⟩ := w
        refine g_iald dX12_lean_66 sh_105 (al_105 hn) (Nat.le_of_ble_eq_true rfl) o5 ?_
        refine g_goto (tgt := 84) dX12_lean_67 rfl ?_
        exact g_retI dX12_lean_84 rfl w
    · refine g_aload_n dX12_lean_47 rfl ?_
      refine g_getR dX12_lean_48 fl_X12_51 sh_97 (al_97 hn) (fun _ _ _ => rfl) rf_97_21 ?_
      refine g_iload_n dX12_lean_51 rfl ?_
      obtain ⟨o6, w⟩ := w
      refine g_iald dX12_lean_52 sh_104 (al_104 hn) (Nat.le_of_ble_eq_true rfl) o6 ?_
      refine g_goto (tgt := 84) dX12_lean_53 rfl ?_
      exact g_retI dX12_lean_84 rfl w
  · refine g_iconst dX12_lean_37 ?_
    exact g_retI dX12_lean_38 rfl w
theorem e_X12_lean {l : Launch} {D : Nat} {ζ : ZP} {h : HI} {Q : Int → HI → Prop} {x1 x2 : Int} (hn : 144 ≤ ζ.2.2.2.2) (w : RtI l D mX12_isIn (zz ζ) [aI x1, aI 0, aI ((h 99 0) - 1)] h (fun r1 h1 => (rg r1) ∧ (if r1 = 0 then (G l (D + 1) 0 0 mX12_lean (zz ζ) 31 [aP 97, aI x1, aI x2] [aI 1, aP 97] h1 (qI (zz ζ) Q)) else (RtI l D mX12_isIn (zz ζ) [aI x2, aI 0, aI 2] h1 (fun r2 h2 => (rg r2) ∧ (if ¬ r2 = 0 then (G l (D + 1) 0 0 mX12_lean (zz ζ) 31 [aP 97, aI x1, aI x2] [aI 0, aP 97] h2 (qI (zz ζ) Q)) else (G l (D + 1) 0 0 mX12_lean (zz ζ) 31 [aP 97, aI x1, aI x2] [aI 1, aP 97] h2 (qI (zz ζ) Q)))))))) : RtI l (D + 1) mX12_lean (zz ζ) [aP 97, aI x1, aI x2] h Q := by
  refine RtI.of 0 pn_X12 [aP 97, aI x1, aI x2] rfl rfl ?_
  refine g_aload_n dX12_lean_0 rfl ?_
  refine g_iload_n dX12_lean_1 rfl ?_
  refine g_iconst dX12_lean_2 ?_
  refine g_aload_n dX12_lean_3 rfl ?_
  refine g_getR dX12_lean_4 fl_X12_33 sh_97 (al_97 hn) (fun _ _ _ => rfl) rf_97_6 ?_
  refine g_iconst dX12_lean_7 ?_
  refine g_iald dX12_lean_8 sh_99 (al_99 hn) (Nat.le_of_ble_eq_true rfl) (by decide) ?_
  refine g_iconst dX12_lean_9 ?_
  refine g_isub dX12_lean_10 ?_
  refine g_callSI (n := 3) (As := [aI x1, aI 0, aI ((h 99 0) - 1)]) (st := [aP 97]) dX12_lean_11 ml_X12_262 rfl rfl (Nat.le_of_ble_eq_true rfl) rfl (RtI.mono w (fun r1 h1 w => ?_))
  obtain ⟨o1, w⟩ := w
  refine g_if_eq (tgt := 26) dX12_lean_14 rfl o1 ?_
  refine ite_imp (fun w => ?_) (fun w => ?_) w
  · refine g_iconst dX12_lean_26 ?_
    refine g_goto (tgt := 31) dX12_lean_27 rfl ?_
    exact g_sub (ls' := [aP 97, aI x1, aI x2]) ⟨Or.inr rfl, Or.inr rfl, Or.inr rfl, trivial⟩ w
  · refine g_iload_n dX12_lean_17 rfl ?_
    refine g_iconst dX12_lean_18 ?_
    refine g_iconst dX12_lean_19 ?_
    refine g_callSI (n := 3) (As := [aI x2, aI 0, aI 2]) (st := [aP 97]) dX12_lean_20 ml_X12_262 rfl rfl (Nat.le_of_ble_eq_true rfl) rfl (RtI.mono w (fun r2 h2 w => ?_))
    obtain ⟨o2, w⟩ := w
    refine g_if_ne (tgt := 30) dX12_lean_23 rfl o2 ?_
    refine ite_imp (fun w => ?_) (fun w => ?_) w
    · refine g_iconst dX12_lean_30 ?_
      exact g_sub (ls' := [aP 97, aI x1, aI x2]) ⟨Or.inr rfl, Or.inr rfl, Or.inr rfl, trivial⟩ w
    · refine g_iconst dX12_lean_26 ?_
      refine g_goto (tgt := 31) dX12_lean_27 rfl ?_
      exact g_sub (ls' := [aP 97, aI x1, aI x2]) ⟨Or.inr rfl, Or.inr rfl, Or.inr rfl, trivial⟩ w
theorem e_X12_flowOf {l : Launch} {D : Nat} {ζ : ZP} {h : HI} {Q : Int → HI → Prop} {x1 : Int} (hn : 144 ≤ ζ.2.2.2.2) (w : (0 ≤ x1 ∧ x1 < 60) ∧ (rg (h 107 x1)) ∧ (if 1 ≤ (h 107 x1) then (((h 107 x1) ≠ 0) ∧ Q ((1000000 : Int).tdiv (h 107 x1)) h) else (Q 0 h))) : RtI l (D + 1) mX12_flowOf (zz ζ) [aP 97, aI x1] h Q := by
  refine RtI.of 0 pn_X12 [aP 97, aI x1] rfl rfl ?_
  refine g_aload_n dX12_flowOf_0 rfl ?_
  refine g_getR dX12_flowOf_1 fl_X12_60 sh_97 (al_97 hn) (fun _ _ _ => rfl) rf_97_24 ?_
  refine g_iload_n dX12_flowOf_4 rfl ?_
  obtain ⟨o1, w⟩ := w
  refine g_iald dX12_flowOf_5 sh_107 (al_107 hn) (Nat.le_of_ble_eq_true rfl) o1 ?_
  refine g_iconst dX12_flowOf_6 ?_
  obtain ⟨o2, w⟩ := w
  refine g_cmp_ge (tgt := 14) dX12_flowOf_7 rfl o2 (by decide) ?_
  refine ite_imp (fun w => ?_) (fun w => ?_) w
  · refine g_ldcw (n := 1000000) dX12_flowOf_14 ko_X12_327 rfl ?_
    refine g_aload_n dX12_flowOf_17 rfl ?_
    refine g_getR dX12_flowOf_18 fl_X12_60 sh_97 (al_97 hn) (fun _ _ _ => rfl) rf_97_24 ?_
    refine g_iload_n dX12_flowOf_21 rfl ?_
    refine g_iald dX12_flowOf_22 sh_107 (al_107 hn) (Nat.le_of_ble_eq_true rfl) o1 ?_
    obtain ⟨o3, w⟩ := w
    refine g_idiv dX12_flowOf_23 (by decide) o2 o3 ?_
    exact g_retI dX12_flowOf_24 rfl w
  · refine g_iconst dX12_flowOf_10 ?_
    refine g_goto (tgt := 24) dX12_flowOf_11 rfl ?_
    exact g_retI dX12_flowOf_24 rfl w
theorem b_X12_packOf_2 {l : Launch} {D : Nat} {ζ : ZP} {h : HI} {Q : Int → HI → Prop} {x1 x2 : Int} (hn : 144 ≤ ζ.2.2.2.2) (w : (rg x2) ∧ (rg (h 99 14)) ∧ (if (h 99 14) ≤ x2 then (Q (-1) h) else (G l (D + 1) 0 0 mX12_packOf (zz ζ) 15 [aP 97, aI x1, aI x2, aI 0] [] h (qI (zz ζ) Q)))) : G l (D + 1) 0 0 mX12_packOf (zz ζ) 2 [aP 97, aI x1, aI x2, aU] [] h (qI (zz ζ) Q) := by
  refine g_iload_n dX12_packOf_2 rfl ?_
  refine g_aload_n dX12_packOf_3 rfl ?_
  refine g_getR dX12_packOf_4 fl_X12_33 sh_97 (al_97 hn) (fun _ _ _ => rfl) rf_97_6 ?_
  refine g_bipush dX12_packOf_7 rfl ?_
  refine g_iald dX12_packOf_9 sh_99 (al_99 hn) (Nat.le_of_ble_eq_true rfl) (by decide) ?_
  obtain ⟨o1, w⟩ := w
  obtain ⟨o2, w⟩ := w
  refine g_cmp_ge (tgt := 66) dX12_packOf_10 rfl o1 o2 ?_
  refine ite_imp (fun w => ?_) (fun w => ?_) w
  · refine g_iconst dX12_packOf_66 ?_
    exact g_retI dX12_packOf_67 rfl w
  · refine g_iconst dX12_packOf_13 ?_
    refine g_istore_n (ls' := [aP 97, aI x1, aI x2, aI 0]) dX12_packOf_14 (Nat.le_of_ble_eq_true rfl) rfl rfl ?_
    exact g_sub (ls' := [aP 97, aI x1, aI x2, aI 0]) ⟨Or.inr rfl, Or.inr rfl, Or.inr rfl, Or.inr rfl, trivial⟩ w
theorem b_X12_packOf_15 {l : Launch} {D : Nat} {ζ : ZP} {h : HI} {Q : Int → HI → Prop} {x1 x2 x3 : Int} (hn : 144 ≤ ζ.2.2.2.2) (w : (0 ≤ ((1677 + (3 * x2)) + 2) ∧ ((1677 + (3 * x2)) + 2) < 2819) ∧ (rg x3) ∧ (rg (h 99 ((1677 + (3 * x2)) + 2))) ∧ (if (h 99 ((1677 + (3 * x2)) + 2)) ≤ x3 then (G l (D + 1) 0 0 mX12_packOf (zz ζ) 2 [aP 97, aI x1, aI (x2 + 1), aU] [] h (qI (zz ζ) Q)) else ((0 ≤ ((2107 + (40 * x2)) + x3) ∧ ((2107 + (40 * x2)) + x3) < 2819) ∧ (rg (h 99 ((2107 + (40 * x2)) + x3))) ∧ (rg x1) ∧ (if ¬ (h 99 ((2107 + (40 * x2)) + x3)) = x1 then (G l (D + 1) 0 0 mX12_packOf (zz ζ) 15 [aP 97, aI x1, aI x2, aI (x3 + 1)] [] h (qI (zz ζ) Q)) else (Q x2 h))))) : G l (D + 1) 0 0 mX12_packOf (zz ζ) 15 [aP 97, aI x1, aI x2, aI x3] [] h (qI (zz ζ) Q) := by
  refine g_iload_n dX12_packOf_15 rfl ?_
  refine g_aload_n dX12_packOf_16 rfl ?_
  refine g_getR dX12_packOf_17 fl_X12_33 sh_97 (al_97 hn) (fun _ _ _ => rfl) rf_97_6 ?_
  refine g_sipush dX12_packOf_20 rfl ?_
  refine g_iconst dX12_packOf_23 ?_
  refine g_iload_n dX12_packOf_24 rfl ?_
  refine g_imul dX12_packOf_25 ?_
  refine g_iadd dX12_packOf_26 ?_
  refine g_iconst dX12_packOf_27 ?_
  refine g_iadd dX12_packOf_28 ?_
  obtain ⟨o1, w⟩ := w
  refine g_iald dX12_packOf_29 sh_99 (al_99 hn) (Nat.le_of_ble_eq_true rfl) o1 ?_
  obtain ⟨o2, w⟩ := w
  obtain ⟨o3, w⟩ := w
  refine g_cmp_ge (tgt := 60) dX12_packOf_30 rfl o2 o3 ?_
  refine ite_imp (fun w => ?_) (fun w => ?_) w
  · refine g_iinc (ls' := [aP 97, aI x1, aI (x2 + 1), aI x3]) dX12_packOf_60 rfl (Nat.le_of_ble_eq_true rfl) rfl rfl ?_
    refine g_goto (tgt := 2) dX12_packOf_63 rfl ?_
    exact g_sub (ls' := [aP 97, aI x1, aI (x2 + 1), aU]) ⟨Or.inr rfl, Or.inr rfl, Or.inr rfl, Or.inl rfl, trivial⟩ w
  · refine g_aload_n dX12_packOf_33 rfl ?_
    refine g_getR dX12_packOf_34 fl_X12_33 sh_97 (al_97 hn) (fun _ _ _ => rfl) rf_97_6 ?_
    refine g_sipush dX12_packOf_37 rfl ?_
    refine g_bipush dX12_packOf_40 rfl ?_
    refine g_iload_n dX12_packOf_42 rfl ?_
    refine g_imul dX12_packOf_43 ?_
    refine g_iadd dX12_packOf_44 ?_
    refine g_iload_n dX12_packOf_45 rfl ?_
    refine g_iadd dX12_packOf_46 ?_
    obtain ⟨o4, w⟩ := w
    refine g_iald dX12_packOf_47 sh_99 (al_99 hn) (Nat.le_of_ble_eq_true rfl) o4 ?_
    refine g_iload_n dX12_packOf_48 rfl ?_
    obtain ⟨o5, w⟩ := w
    obtain ⟨o6, w⟩ := w
    refine g_cmp_ne (tgt := 54) dX12_packOf_49 rfl o5 o6 ?_
    refine ite_imp (fun w => ?_) (fun w => ?_) w
    · refine g_iinc (ls' := [aP 97, aI x1, aI x2, aI (x3 + 1)]) dX12_packOf_54 rfl (Nat.le_of_ble_eq_true rfl) rfl rfl ?_
      refine g_goto (tgt := 15) dX12_packOf_57 rfl ?_
      exact g_sub (ls' := [aP 97, aI x1, aI x2, aI (x3 + 1)]) ⟨Or.inr rfl, Or.inr rfl, Or.inr rfl, Or.inr rfl, trivial⟩ w
    · refine g_iload_n dX12_packOf_52 rfl ?_
      exact g_retI dX12_packOf_53 rfl w
theorem e_X12_packOf {l : Launch} {D : Nat} {ζ : ZP} {h : HI} {Q : Int → HI → Prop} {x1 : Int} (hn : 144 ≤ ζ.2.2.2.2) (w : G l (D + 1) 0 0 mX12_packOf (zz ζ) 2 [aP 97, aI x1, aI 0, aU] [] h (qI (zz ζ) Q)) : RtI l (D + 1) mX12_packOf (zz ζ) [aP 97, aI x1] h Q := by
  refine RtI.of 2 pn_X12 [aP 97, aI x1, aU, aU] rfl rfl ?_
  refine g_iconst dX12_packOf_0 ?_
  refine g_istore_n (ls' := [aP 97, aI x1, aI 0, aU]) dX12_packOf_1 (Nat.le_of_ble_eq_true rfl) rfl rfl ?_
  exact g_sub (ls' := [aP 97, aI x1, aI 0, aU]) ⟨Or.inr rfl, Or.inr rfl, Or.inr rfl, Or.inl rfl, trivial⟩ w
theorem b_X12_about_23 {l : Launch} {D : Nat} {ζ : ZP} {h : HI} {Q : Int → HI → Prop} {s0 x1 x2 : Int} (hn : 144 ≤ ζ.2.2.2.2) (w : RtI l D mX12_throwsIf (zz ζ) [aP 97, aI s0] h (fun r1 h1 => (rg r1) ∧ (if r1 = 0 then (RtV l D mX12_settle (zz ζ) [aP 97] h1 (fun h2 => (rg x2) ∧ (if ¬ x2 = 0 then (if ¬ x2 = 1 then (if ¬ x2 = 2 then (if ¬ x2 = 3 then (if ¬ x2 = 4 then (RtI l D mX12_packOf (zz ζ) [aP 97, aI x1] h2 (fun r3 h3 => Q r3 h3)) else (RtI l D mX12_flowOf (zz ζ) [aP 97, aI x1] h2 (fun r4 h4 => Q r4 h4))) else ((0 ≤ x1 ∧ x1 < 60) ∧ Q (h2 108 x1) h2)) else ((0 ≤ x1 ∧ x1 < 60) ∧ Q (h2 107 x1) h2)) else ((0 ≤ x1 ∧ x1 < 60) ∧ Q (h2 106 x1) h2)) else ((0 ≤ (17 + x1) ∧ (17 + x1) < 2819) ∧ Q (h2 99 (17 + x1)) h2)))) else (Q 0 h1)))) : G l (D + 1) 0 0 mX12_about (zz ζ) 23 [aP 97, aI x1, aI x2] [aI s0, aP 97] h (qI (zz ζ) Q) := by
  refine g_callVI (n := 1) (As := [aI s0]) (st := []) dX12_about_23 ml_X12_320 sh_97 rfl (al_97 hn) rfl rfl (Nat.le_of_ble_eq_true rfl) (RtI.mono w (fun r1 h1 w => ?_))
  obtain ⟨o1, w⟩ := w
  refine g_if_eq (tgt := 31) dX12_about_26 rfl o1 ?_
  refine ite_imp (fun w => ?_) (fun w => ?_) w
  · refine g_aload_n dX12_about_31 rfl ?_
    refine g_callVV (n := 0) (As := []) (st := []) dX12_about_32 ml_X12_324 sh_97 rfl (al_97 hn) rfl rfl (Nat.le_of_ble_eq_true rfl) (RtV.mono w (fun h2 w => ?_))
    refine g_iload_n dX12_about_35 rfl ?_
    obtain ⟨o2, w⟩ := w
    refine g_if_ne (tgt := 51) dX12_about_36 rfl o2 ?_
    refine ite_imp (fun w => ?_) (fun w => ?_) w
    · refine g_iload_n dX12_about_51 rfl ?_
      refine g_iconst dX12_about_52 ?_
      refine g_cmp_ne (tgt := 65) dX12_about_53 rfl o2 (by decide) ?_
      refine ite_imp (fun w => ?_) (fun w => ?_) w
      · refine g_iload_n dX12_about_65 rfl ?_
        refine g_iconst dX12_about_66 ?_
        refine g_cmp_ne (tgt := 79) dX12_about_67 rfl o2 (by decide) ?_
        refine ite_imp (fun w => ?_) (fun w => ?_) w
        · refine g_iload_n dX12_about_79 rfl ?_
          refine g_iconst dX12_about_80 ?_
          refine g_cmp_ne (tgt := 93) dX12_about_81 rfl o2 (by decide) ?_
          refine ite_imp (fun w => ?_) (fun w => ?_) w
          · refine g_iload_n dX12_about_93 rfl ?_
            refine g_iconst dX12_about_94 ?_
            refine g_cmp_ne (tgt := 106) dX12_about_95 rfl o2 (by decide) ?_
            refine ite_imp (fun w => ?_) (fun w => ?_) w
            · refine g_aload_n dX12_about_106 rfl ?_
              refine g_iload_n dX12_about_107 rfl ?_
              refine g_callVI (n := 1) (As := [aI x1]) (st := []) dX12_about_108 ml_X12_332 sh_97 rfl (al_97 hn) rfl rfl (Nat.le_of_ble_eq_true rfl) (RtI.mono w (fun r3 h3 w => ?_))
              exact g_retI dX12_about_111 rfl w
            · refine g_aload_n dX12_about_98 rfl ?_
              refine g_iload_n dX12_about_99 rfl ?_
              refine g_callVI (n := 1) (As := [aI x1]) (st := []) dX12_about_100 ml_X12_328 sh_97 rfl (al_97 hn) rfl rfl (Nat.le_of_ble_eq_true rfl) (RtI.mono w (fun r4 h4 w => ?_))
              refine g_goto (tgt := 111) dX12_about_103 rfl ?_
              exact g_retI dX12_about_111 rfl w
          · refine g_aload_n dX12_about_84 rfl ?_
            refine g_getR dX12_about_85 fl_X12_63 sh_97 (al_97 hn) (fun _ _ _ => rfl) rf_97_25 ?_
            refine g_iload_n dX12_about_88 rfl ?_
            obtain ⟨o3, w⟩ := w
            refine g_iald dX12_about_89 sh_108 (al_108 hn) (Nat.le_of_ble_eq_true rfl) o3 ?_
            refine g_goto (tgt := 111) dX12_about_90 rfl ?_
            exact g_retI dX12_about_111 rfl w
        · refine g_aload_n dX12_about_70 rfl ?_
          refine g_getR dX12_about_71 fl_X12_60 sh_97 (al_97 hn) (fun _ _ _ => rfl) rf_97_24 ?_
          refine g_iload_n dX12_about_74 rfl ?_
          obtain ⟨o4, w⟩ := w
          refine g_iald dX12_about_75 sh_107 (al_107 hn) (Nat.le_of_ble_eq_true rfl) o4 ?_
          refine g_goto (tgt := 111) dX12_about_76 rfl ?_
          exact g_retI dX12_about_111 rfl w
      · refine g_aload_n dX12_about_56 rfl ?_
        refine g_getR dX12_about_57 fl_X12_57 sh_97 (al_97 hn) (fun _ _ _ => rfl) rf_97_23 ?_
        refine g_iload_n dX12_about_60 rfl ?_
        obtain ⟨o5, w⟩ := w
        refine g_iald dX12_about_61 sh_106 (al_106 hn) (Nat.le_of_ble_eq_true rfl) o5 ?_
        refine g_goto (tgt := 111) dX12_about_62 rfl ?_
        exact g_retI dX12_about_111 rfl w
    · refine g_aload_n dX12_about_39 rfl ?_
      refine g_getR dX12_about_40 fl_X12_33 sh_97 (al_97 hn) (fun _ _ _ => rfl) rf_97_6 ?_
      refine g_bipush dX12_about_43 rfl ?_
      refine g_iload_n dX12_about_45 rfl ?_
      refine g_iadd dX12_about_46 ?_
      obtain ⟨o6, w⟩ := w
      refine g_iald dX12_about_47 sh_99 (al_99 hn) (Nat.le_of_ble_eq_true rfl) o6 ?_
      refine g_goto (tgt := 111) dX12_about_48 rfl ?_
      exact g_retI dX12_about_111 rfl w
  · refine g_iconst dX12_about_29 ?_
    exact g_retI dX12_about_30 rfl w
theorem e_X12_about {l : Launch} {D : Nat} {ζ : ZP} {h : HI} {Q : Int → HI → Prop} {x1 x2 : Int} (hn : 144 ≤ ζ.2.2.2.2) (w : RtI l D mX12_isCell (zz ζ) [aP 97, aI x1] h (fun r1 h1 => (rg r1) ∧ (if r1 = 0 then (G l (D + 1) 0 0 mX12_about (zz ζ) 23 [aP 97, aI x1, aI x2] [aI 1, aP 97] h1 (qI (zz ζ) Q)) else (RtI l D mX12_isIn (zz ζ) [aI x2, aI 0, aI 5] h1 (fun r2 h2 => (rg r2) ∧ (if ¬ r2 = 0 then (G l (D + 1) 0 0 mX12_about (zz ζ) 23 [aP 97, aI x1, aI x2] [aI 0, aP 97] h2 (qI (zz ζ) Q)) else (G l (D + 1) 0 0 mX12_about (zz ζ) 23 [aP 97, aI x1, aI x2] [aI 1, aP 97] h2 (qI (zz ζ) Q)))))))) : RtI l (D + 1) mX12_about (zz ζ) [aP 97, aI x1, aI x2] h Q := by
  refine RtI.of 0 pn_X12 [aP 97, aI x1, aI x2] rfl rfl ?_
  refine g_aload_n dX12_about_0 rfl ?_
  refine g_aload_n dX12_about_1 rfl ?_
  refine g_iload_n dX12_about_2 rfl ?_
  refine g_callVI (n := 1) (As := [aI x1]) (st := [aP 97]) dX12_about_3 ml_X12_304 sh_97 rfl (al_97 hn) rfl rfl (Nat.le_of_ble_eq_true rfl) (RtI.mono w (fun r1 h1 w => ?_))
  obtain ⟨o1, w⟩ := w
  refine g_if_eq (tgt := 18) dX12_about_6 rfl o1 ?_
  refine ite_imp (fun w => ?_) (fun w => ?_) w
  · refine g_iconst dX12_about_18 ?_
    refine g_goto (tgt := 23) dX12_about_19 rfl ?_
    exact g_sub (ls' := [aP 97, aI x1, aI x2]) ⟨Or.inr rfl, Or.inr rfl, Or.inr rfl, trivial⟩ w
  · refine g_iload_n dX12_about_9 rfl ?_
    refine g_iconst dX12_about_10 ?_
    refine g_iconst dX12_about_11 ?_
    refine g_callSI (n := 3) (As := [aI x2, aI 0, aI 5]) (st := [aP 97]) dX12_about_12 ml_X12_262 rfl rfl (Nat.le_of_ble_eq_true rfl) rfl (RtI.mono w (fun r2 h2 w => ?_))
    obtain ⟨o2, w⟩ := w
    refine g_if_ne (tgt := 22) dX12_about_15 rfl o2 ?_
    refine ite_imp (fun w => ?_) (fun w => ?_) w
    · refine g_iconst dX12_about_22 ?_
      exact g_sub (ls' := [aP 97, aI x1, aI x2]) ⟨Or.inr rfl, Or.inr rfl, Or.inr rfl, trivial⟩ w
    · refine g_iconst dX12_about_18 ?_
      refine g_goto (tgt := 23) dX12_about_19 rfl ?_
      exact g_sub (ls' := [aP 97, aI x1, aI x2]) ⟨Or.inr rfl, Or.inr rfl, Or.inr rfl, trivial⟩ w
theorem b_X12_again_13 {l : Launch} {D : Nat} {ζ : ZP} {h : HI} {Q : Int → HI → Prop} {x1 x2 : Int} (hn : 144 ≤ ζ.2.2.2.2) (w : (rg x2) ∧ (rg (h 99 11)) ∧ (if (h 99 11) ≤ x2 then (Q x1 h) else ((0 ≤ x2 ∧ x2 < 60) ∧ (rg (h 109 x2)) ∧ (if (h 109 x2) ≤ 1 then (G l (D + 1) 0 0 mX12_again (zz ζ) 13 [aP 97, aI x1, aI (x2 + 1)] [] h (qI (zz ζ) Q)) else ((rg x1) ∧ (if x1 < 0 then (G l (D + 1) 0 0 mX12_again (zz ζ) 13 [aP 97, aI x2, aI (x2 + 1)] [] h (qI (zz ζ) Q)) else ((0 ≤ x1 ∧ x1 < 60) ∧ (rg (h 108 x2)) ∧ (rg (h 108 x1)) ∧ (if (h 108 x2) ≤ (h 108 x1) then (G l (D + 1) 0 0 mX12_again (zz ζ) 13 [aP 97, aI x1, aI (x2 + 1)] [] h (qI (zz ζ) Q)) else (G l (D + 1) 0 0 mX12_again (zz ζ) 13 [aP 97, aI x2, aI (x2 + 1)] [] h (qI (zz ζ) Q)))))))))) : G l (D + 1) 0 0 mX12_again (zz ζ) 13 [aP 97, aI x1, aI x2] [] h (qI (zz ζ) Q) := by
  refine g_iload_n dX12_again_13 rfl ?_
  refine g_aload_n dX12_again_14 rfl ?_
  refine g_getR dX12_again_15 fl_X12_33 sh_97 (al_97 hn) (fun _ _ _ => rfl) rf_97_6 ?_
  refine g_bipush dX12_again_18 rfl ?_
  refine g_iald dX12_again_20 sh_99 (al_99 hn) (Nat.le_of_ble_eq_true rfl) (by decide) ?_
  obtain ⟨o1, w⟩ := w
  obtain ⟨o2, w⟩ := w
  refine g_cmp_ge (tgt := 61) dX12_again_21 rfl o1 o2 ?_
  refine ite_imp (fun w => ?_) (fun w => ?_) w
  · refine g_iload_n dX12_again_61 rfl ?_
    exact g_retI dX12_again_62 rfl w
  · refine g_aload_n dX12_again_24 rfl ?_
    refine g_getR dX12_again_25 fl_X12_66 sh_97 (al_97 hn) (fun _ _ _ => rfl) rf_97_26 ?_
    refine g_iload_n dX12_again_28 rfl ?_
    obtain ⟨o3, w⟩ := w
    refine g_iald dX12_again_29 sh_109 (al_109 hn) (Nat.le_of_ble_eq_true rfl) o3 ?_
    refine g_iconst dX12_again_30 ?_
    obtain ⟨o4, w⟩ := w
    refine g_cmp_le (tgt := 55) dX12_again_31 rfl o4 (by decide) ?_
    refine ite_imp (fun w => ?_) (fun w => ?_) w
    · refine g_iinc (ls' := [aP 97, aI x1, aI (x2 + 1)]) dX12_again_55 rfl (Nat.le_of_ble_eq_true rfl) rfl rfl ?_
      refine g_goto (tgt := 13) dX12_again_58 rfl ?_
      exact g_sub (ls' := [aP 97, aI x1, aI (x2 + 1)]) ⟨Or.inr rfl, Or.inr rfl, Or.inr rfl, trivial⟩ w
    · refine g_iload_n dX12_again_34 rfl ?_
      obtain ⟨o5, w⟩ := w
      refine g_if_lt (tgt := 53) dX12_again_35 rfl o5 ?_
      refine ite_imp (fun w => ?_) (fun w => ?_) w
      · refine g_iload_n dX12_again_53 rfl ?_
        refine g_istore_n (ls' := [aP 97, aI x2, aI x2]) dX12_again_54 (Nat.le_of_ble_eq_true rfl) rfl rfl ?_
        refine g_iinc (ls' := [aP 97, aI x2, aI (x2 + 1)]) dX12_again_55 rfl (Nat.le_of_ble_eq_true rfl) rfl rfl ?_
        refine g_goto (tgt := 13) dX12_again_58 rfl ?_
        exact g_sub (ls' := [aP 97, aI x2, aI (x2 + 1)]) ⟨Or.inr rfl, Or.inr rfl, Or.inr rfl, trivial⟩ w
      · refine g_aload_n dX12_again_38 rfl ?_
        refine g_getR dX12_again_39 fl_X12_63 sh_97 (al_97 hn) (fun _ _ _ => rfl) rf_97_25 ?_
        refine g_iload_n dX12_again_42 rfl ?_
        refine g_iald dX12_again_43 sh_108 (al_108 hn) (Nat.le_of_ble_eq_true rfl) o3 ?_
        refine g_aload_n dX12_again_44 rfl ?_
        refine g_getR dX12_again_45 fl_X12_63 sh_97 (al_97 hn) (fun _ _ _ => rfl) rf_97_25 ?_
        refine g_iload_n dX12_again_48 rfl ?_
        obtain ⟨o6, w⟩ := w
        refine g_iald dX12_again_49 sh_108 (al_108 hn) (Nat.le_of_ble_eq_true rfl) o6 ?_
        obtain ⟨o7, w⟩ := w
        obtain ⟨o8, w⟩ := w
        refine g_cmp_le (tgt := 55) dX12_again_50 rfl o7 o8 ?_
        refine ite_imp (fun w => ?_) (fun w => ?_) w
        · refine g_iinc (ls' := [aP 97, aI x1, aI (x2 + 1)]) dX12_again_55 rfl (Nat.le_of_ble_eq_true rfl) rfl rfl ?_
          refine g_goto (tgt := 13) dX12_again_58 rfl ?_
          exact g_sub (ls' := [aP 97, aI x1, aI (x2 + 1)]) ⟨Or.inr rfl, Or.inr rfl, Or.inr rfl, trivial⟩ w
        · refine g_iload_n dX12_again_53 rfl ?_
          refine g_istore_n (ls' := [aP 97, aI x2, aI x2]) dX12_again_54 (Nat.le_of_ble_eq_true rfl) rfl rfl ?_
          refine g_iinc (ls' := [aP 97, aI x2, aI (x2 + 1)]) dX12_again_55 rfl (Nat.le_of_ble_eq_true rfl) rfl rfl ?_
          refine g_goto (tgt := 13) dX12_again_58 rfl ?_
          exact g_sub (ls' := [aP 97, aI x2, aI (x2 + 1)]) ⟨Or.inr rfl, Or.inr rfl, Or.inr rfl, trivial⟩ w
theorem e_X12_again {l : Launch} {D : Nat} {ζ : ZP} {h : HI} {Q : Int → HI → Prop} (hn : 144 ≤ ζ.2.2.2.2) (w : RtV l D mX12_settle (zz ζ) [aP 97] (hu h 97 0 0) (fun h1 => G l (D + 1) 0 0 mX12_again (zz ζ) 13 [aP 97, aI (-1), aI 0] [] h1 (qI (zz ζ) Q))) : RtI l (D + 1) mX12_again (zz ζ) [aP 97] h Q := by
  refine RtI.of 2 pn_X12 [aP 97, aU, aU] rfl rfl ?_
  refine g_aload_n dX12_again_0 rfl ?_
  refine g_iconst dX12_again_1 ?_
  refine g_putI (J := 0) dX12_again_2 fl_X12_1 sh_97 (al_97 hn) rfl rfl ?_
  refine g_aload_n dX12_again_5 rfl ?_
  refine g_callVV (n := 0) (As := []) (st := []) dX12_again_6 ml_X12_324 sh_97 rfl (al_97 hn) rfl rfl (Nat.le_of_ble_eq_true rfl) (RtV.mono w (fun h1 w => ?_))
  refine g_iconst dX12_again_9 ?_
  refine g_istore_n (ls' := [aP 97, aI (-1), aU]) dX12_again_10 (Nat.le_of_ble_eq_true rfl) rfl rfl ?_
  refine g_iconst dX12_again_11 ?_
  refine g_istore_n (ls' := [aP 97, aI (-1), aI 0]) dX12_again_12 (Nat.le_of_ble_eq_true rfl) rfl rfl ?_
  exact g_sub (ls' := [aP 97, aI (-1), aI 0]) ⟨Or.inr rfl, Or.inr rfl, Or.inr rfl, trivial⟩ w
theorem b_X12_common_10 {l : Launch} {D : Nat} {ζ : ZP} {h : HI} {Q : Int → HI → Prop} {x2 x3 : Int} (hn : 144 ≤ ζ.2.2.2.2) (w : (rg x3) ∧ (if x3 = 0 then (Q x2 h) else ((rg x2) ∧ (x3 ≠ 0) ∧ G l (D + 1) 0 0 mX12_common (zz ζ) 10 [aU, aU, aI x3, aI (x2.tmod x3), aU] [] h (qI (zz ζ) Q)))) : G l (D + 1) 0 0 mX12_common (zz ζ) 10 [aU, aU, aI x2, aI x3, aU] [] h (qI (zz ζ) Q) := by
  refine g_iload_n dX12_common_10 rfl ?_
  obtain ⟨o1, w⟩ := w
  refine g_if_eq (tgt := 27) dX12_common_11 rfl o1 ?_
  refine ite_imp (fun w => ?_) (fun w => ?_) w
  · refine g_iload_n dX12_common_27 rfl ?_
    exact g_retI dX12_common_28 rfl w
  · refine g_iload_n dX12_common_14 rfl ?_
    refine g_iload_n dX12_common_15 rfl ?_
    obtain ⟨o2, w⟩ := w
    obtain ⟨o3, w⟩ := w
    refine g_irem dX12_common_16 o2 o1 o3 ?_
    refine g_istore (ls' := [aU, aU, aI x2, aI x3, aI (x2.tmod x3)]) dX12_common_17 (Nat.le_of_ble_eq_true rfl) rfl rfl ?_
    refine g_iload_n dX12_common_19 rfl ?_
    refine g_istore_n (ls' := [aU, aU, aI x3, aI x3, aI (x2.tmod x3)]) dX12_common_20 (Nat.le_of_ble_eq_true rfl) rfl rfl ?_
    refine g_iload dX12_common_21 rfl ?_
    refine g_istore_n (ls' := [aU, aU, aI x3, aI (x2.tmod x3), aI (x2.tmod x3)]) dX12_common_23 (Nat.le_of_ble_eq_true rfl) rfl rfl ?_
    refine g_goto (tgt := 10) dX12_common_24 rfl ?_
    exact g_sub (ls' := [aU, aU, aI x3, aI (x2.tmod x3), aU]) ⟨Or.inl rfl, Or.inl rfl, Or.inr rfl, Or.inr rfl, Or.inl rfl, trivial⟩ w
theorem e_X12_common {l : Launch} {D : Nat} {ζ : ZP} {h : HI} {Q : Int → HI → Prop} {x0 x1 : Int} (hn : 144 ≤ ζ.2.2.2.2) (w : RtI l D mX12_plain (zz ζ) [aI x0] h (fun r1 h1 => RtI l D mX12_plain (zz ζ) [aI x1] h1 (fun r2 h2 => G l (D + 1) 0 0 mX12_common (zz ζ) 10 [aU, aU, aI r1, aI r2, aU] [] h2 (qI (zz ζ) Q)))) : RtI l (D + 1) mX12_common (zz ζ) [aI x0, aI x1] h Q := by
  refine RtI.of 3 pn_X12 [aI x0, aI x1, aU, aU, aU] rfl rfl ?_
  refine g_iload_n dX12_common_0 rfl ?_
  refine g_callSI (n := 1) (As := [aI x0]) (st := []) dX12_common_1 ml_X12_335 rfl rfl (Nat.le_of_ble_eq_true rfl) rfl (RtI.mono w (fun r1 h1 w => ?_))
  refine g_istore_n (ls' := [aI x0, aI x1, aI r1, aU, aU]) dX12_common_4 (Nat.le_of_ble_eq_true rfl) rfl rfl ?_
  refine g_iload_n dX12_common_5 rfl ?_
  refine g_callSI (n := 1) (As := [aI x1]) (st := []) dX12_common_6 ml_X12_335 rfl rfl (Nat.le_of_ble_eq_true rfl) rfl (RtI.mono w (fun r2 h2 w => ?_))
  refine g_istore_n (ls' := [aI x0, aI x1, aI r1, aI r2, aU]) dX12_common_9 (Nat.le_of_ble_eq_true rfl) rfl rfl ?_
  exact g_sub (ls' := [aU, aU, aI r1, aI r2, aU]) ⟨Or.inl rfl, Or.inl rfl, Or.inr rfl, Or.inr rfl, Or.inl rfl, trivial⟩ w
theorem b_X12_falls_18 {l : Launch} {D : Nat} {ζ : ZP} {h : HI} {Q : Int → HI → Prop} {x1 x2 x3 x4 : Int} (hn : 144 ≤ ζ.2.2.2.2) (w : (rg x4) ∧ (if x4 < 0 then ((rg x2) ∧ (if x2 < 0 then (Q 0 h) else ((rg x3) ∧ (if ¬ x3 = x2 then ((0 ≤ ((877 + (4 * x3)) + 2) ∧ ((877 + (4 * x3)) + 2) < 2819) ∧ (0 ≤ ((877 + (4 * x2)) + 2) ∧ ((877 + (4 * x2)) + 2) < 2819) ∧ (0 ≤ ((877 + (4 * x2)) + 1) ∧ ((877 + (4 * x2)) + 1) < 2819) ∧ (0 ≤ ((877 + (4 * x3)) + 1) ∧ ((877 + (4 * x3)) + 1) < 2819) ∧ Q 1 (hu (hu h 97 28 ((h 99 ((877 + (4 * x3)) + 2)) - (h 99 ((877 + (4 * x2)) + 2)))) 97 29 ((h 99 ((877 + (4 * x2)) + 1)) - (h 99 ((877 + (4 * x3)) + 1))))) else (Q 0 h))))) else (RtI l D mX12_restAhead (zz ζ) [aP 97, aI x1, aI x4] h (fun r1 h1 => G l (D + 1) 0 0 mX12_falls (zz ζ) 18 [aP 97, aI x1, aI x2, aI x4, aI r1] [] h1 (qI (zz ζ) Q))))) : G l (D + 1) 0 0 mX12_falls (zz ζ) 18 [aP 97, aI x1, aI x2, aI x3, aI x4] [] h (qI (zz ζ) Q) := by
  refine g_iload dX12_falls_18 rfl ?_
  obtain ⟨o1, w⟩ := w
  refine g_if_lt (tgt := 38) dX12_falls_20 rfl o1 ?_
  refine ite_imp (fun w => ?_) (fun w => ?_) w
  · refine g_iload_n dX12_falls_38 rfl ?_
    obtain ⟨o2, w⟩ := w
    refine g_if_lt (tgt := 47) dX12_falls_39 rfl o2 ?_
    refine ite_imp (fun w => ?_) (fun w => ?_) w
    · refine g_iconst dX12_falls_47 ?_
      exact g_retZ dX12_falls_48 rfl (Or.inl rfl) w
    · refine g_iload_n dX12_falls_42 rfl ?_
      refine g_iload_n dX12_falls_43 rfl ?_
      obtain ⟨o3, w⟩ := w
      refine g_cmp_ne (tgt := 49) dX12_falls_44 rfl o3 o2 ?_
      refine ite_imp (fun w => ?_) (fun w => ?_) w
      · refine g_aload_n dX12_falls_49 rfl ?_
        refine g_aload_n dX12_falls_50 rfl ?_
        refine g_getR dX12_falls_51 fl_X12_33 sh_97 (al_97 hn) (fun _ _ _ => rfl) rf_97_6 ?_
        refine g_sipush dX12_falls_54 rfl ?_
        refine g_iconst dX12_falls_57 ?_
        refine g_iload_n dX12_falls_58 rfl ?_
        refine g_imul dX12_falls_59 ?_
        refine g_iadd dX12_falls_60 ?_
        refine g_iconst dX12_falls_61 ?_
        refine g_iadd dX12_falls_62 ?_
        obtain ⟨o4, w⟩ := w
        refine g_iald dX12_falls_63 sh_99 (al_99 hn) (Nat.le_of_ble_eq_true rfl) o4 ?_
        refine g_aload_n dX12_falls_64 rfl ?_
        refine g_getR dX12_falls_65 fl_X12_33 sh_97 (al_97 hn) (fun _ _ _ => rfl) rf_97_6 ?_
        refine g_sipush dX12_falls_68 rfl ?_
        refine g_iconst dX12_falls_71 ?_
        refine g_iload_n dX12_falls_72 rfl ?_
        refine g_imul dX12_falls_73 ?_
        refine g_iadd dX12_falls_74 ?_
        refine g_iconst dX12_falls_75 ?_
        refine g_iadd dX12_falls_76 ?_
        obtain ⟨o5, w⟩ := w
        refine g_iald dX12_falls_77 sh_99 (al_99 hn) (Nat.le_of_ble_eq_true rfl) o5 ?_
        refine g_isub dX12_falls_78 ?_
        refine g_putI (J := 28) dX12_falls_79 fl_X12_338 sh_97 (al_97 hn) rfl rfl ?_
        refine g_aload_n dX12_falls_82 rfl ?_
        refine g_aload_n dX12_falls_83 rfl ?_
        refine g_getR dX12_falls_84 fl_X12_33 sh_97 (al_97 hn) (fun _ _ _ => rfl) rf_97_6 ?_
        refine g_sipush dX12_falls_87 rfl ?_
        refine g_iconst dX12_falls_90 ?_
        refine g_iload_n dX12_falls_91 rfl ?_
        refine g_imul dX12_falls_92 ?_
        refine g_iadd dX12_falls_93 ?_
        refine g_iconst dX12_falls_94 ?_
        refine g_iadd dX12_falls_95 ?_
        obtain ⟨o6, w⟩ := w
        refine g_iald dX12_falls_96 sh_99 (al_99 hn) (Nat.le_of_ble_eq_true rfl) o6 ?_
        refine g_aload_n dX12_falls_97 rfl ?_
        refine g_getR dX12_falls_98 fl_X12_33 sh_97 (al_97 hn) (fun _ _ _ => rfl) rf_97_6 ?_
        refine g_sipush dX12_falls_101 rfl ?_
        refine g_iconst dX12_falls_104 ?_
        refine g_iload_n dX12_falls_105 rfl ?_
        refine g_imul dX12_falls_106 ?_
        refine g_iadd dX12_falls_107 ?_
        refine g_iconst dX12_falls_108 ?_
        refine g_iadd dX12_falls_109 ?_
        obtain ⟨o7, w⟩ := w
        refine g_iald dX12_falls_110 sh_99 (al_99 hn) (Nat.le_of_ble_eq_true rfl) o7 ?_
        refine g_isub dX12_falls_111 ?_
        refine g_putI (J := 29) dX12_falls_112 fl_X12_341 sh_97 (al_97 hn) rfl rfl ?_
        refine g_iconst dX12_falls_115 ?_
        exact g_retZ dX12_falls_116 rfl (Or.inr rfl) w
      · refine g_iconst dX12_falls_47 ?_
        exact g_retZ dX12_falls_48 rfl (Or.inl rfl) w
  · refine g_iload dX12_falls_23 rfl ?_
    refine g_istore_n (ls' := [aP 97, aI x1, aI x2, aI x4, aI x4]) dX12_falls_25 (Nat.le_of_ble_eq_true rfl) rfl rfl ?_
    refine g_aload_n dX12_falls_26 rfl ?_
    refine g_iload_n dX12_falls_27 rfl ?_
    refine g_iload dX12_falls_28 rfl ?_
    refine g_callVI (n := 2) (As := [aI x1, aI x4]) (st := []) dX12_falls_30 ml_X12_307 sh_97 rfl (al_97 hn) rfl rfl (Nat.le_of_ble_eq_true rfl) (RtI.mono w (fun r1 h1 w => ?_))
    refine g_istore (ls' := [aP 97, aI x1, aI x2, aI x4, aI r1]) dX12_falls_33 (Nat.le_of_ble_eq_true rfl) rfl rfl ?_
    refine g_goto (tgt := 18) dX12_falls_35 rfl ?_
    exact g_sub (ls' := [aP 97, aI x1, aI x2, aI x4, aI r1]) ⟨Or.inr rfl, Or.inr rfl, Or.inr rfl, Or.inr rfl, Or.inr rfl, trivial⟩ w
theorem e_X12_falls {l : Launch} {D : Nat} {ζ : ZP} {h : HI} {Q : Int → HI → Prop} {x1 : Int} (hn : 144 ≤ ζ.2.2.2.2) (w : RtI l D mX12_restAhead (zz ζ) [aP 97, aI x1, aI (h 99 13)] h (fun r1 h1 => G l (D + 1) 0 0 mX12_falls (zz ζ) 18 [aP 97, aI x1, aI r1, aI r1, aI r1] [] h1 (qI (zz ζ) Q))) : RtI l (D + 1) mX12_falls (zz ζ) [aP 97, aI x1] h Q := by
  refine RtI.of 3 pn_X12 [aP 97, aI x1, aU, aU, aU] rfl rfl ?_
  refine g_aload_n dX12_falls_0 rfl ?_
  refine g_iload_n dX12_falls_1 rfl ?_
  refine g_aload_n dX12_falls_2 rfl ?_
  refine g_getR dX12_falls_3 fl_X12_33 sh_97 (al_97 hn) (fun _ _ _ => rfl) rf_97_6 ?_
  refine g_bipush dX12_falls_6 rfl ?_
  refine g_iald dX12_falls_8 sh_99 (al_99 hn) (Nat.le_of_ble_eq_true rfl) (by decide) ?_
  refine g_callVI (n := 2) (As := [aI x1, aI (h 99 13)]) (st := []) dX12_falls_9 ml_X12_307 sh_97 rfl (al_97 hn) rfl rfl (Nat.le_of_ble_eq_true rfl) (RtI.mono w (fun r1 h1 w => ?_))
  refine g_istore_n (ls' := [aP 97, aI x1, aI r1, aU, aU]) dX12_falls_12 (Nat.le_of_ble_eq_true rfl) rfl rfl ?_
  refine g_iload_n dX12_falls_13 rfl ?_
  refine g_istore_n (ls' := [aP 97, aI x1, aI r1, aI r1, aU]) dX12_falls_14 (Nat.le_of_ble_eq_true rfl) rfl rfl ?_
  refine g_iload_n dX12_falls_15 rfl ?_
  refine g_istore (ls' := [aP 97, aI x1, aI r1, aI r1, aI r1]) dX12_falls_16 (Nat.le_of_ble_eq_true rfl) rfl rfl ?_
  exact g_sub (ls' := [aP 97, aI x1, aI r1, aI r1, aI r1]) ⟨Or.inr rfl, Or.inr rfl, Or.inr rfl, Or.inr rfl, Or.inr rfl, trivial⟩ w
theorem e_X12_fall {l : Launch} {D : Nat} {ζ : ZP} {h : HI} {Q : Int → HI → Prop} {x1 x2 : Int} (hn : 144 ≤ ζ.2.2.2.2) (w : RtI l D mX12_isCell (zz ζ) [aP 97, aI x1] h (fun r1 h1 => (rg r1) ∧ (if r1 = 0 then (RtI l D mX12_throwsIf (zz ζ) [aP 97, aI 1] h1 (fun r2 h2 => (rg r2) ∧ (if r2 = 0 then ((rg x2) ∧ (if ¬ x2 = 0 then (RtI l D mX12_common (zz ζ) [aI (h2 97 28), aI (h2 97 29)] h2 (fun r3 h3 => (rg (h2 97 29)) ∧ (rg r3) ∧ (r3 ≠ 0) ∧ Q ((h2 97 29).tdiv r3) h3)) else (RtI l D mX12_common (zz ζ) [aI (h2 97 28), aI (h2 97 29)] h2 (fun r4 h4 => (rg (h2 97 28)) ∧ (rg r4) ∧ (r4 ≠ 0) ∧ Q ((h2 97 28).tdiv r4) h4)))) else (Q 0 h2)))) else (RtI l D mX12_isIn (zz ζ) [aI x2, aI 0, aI 1] h1 (fun r5 h5 => (rg r5) ∧ (if r5 = 0 then (RtI l D mX12_throwsIf (zz ζ) [aP 97, aI 1] h5 (fun r6 h6 => (rg r6) ∧ (if r6 = 0 then ((rg x2) ∧ (if ¬ x2 = 0 then (RtI l D mX12_common (zz ζ) [aI (h6 97 28), aI (h6 97 29)] h6 (fun r7 h7 => (rg (h6 97 29)) ∧ (rg r7) ∧ (r7 ≠ 0) ∧ Q ((h6 97 29).tdiv r7) h7)) else (RtI l D mX12_common (zz ζ) [aI (h6 97 28), aI (h6 97 29)] h6 (fun r8 h8 => (rg (h6 97 28)) ∧ (rg r8) ∧ (r8 ≠ 0) ∧ Q ((h6 97 28).tdiv r8) h8)))) else (Q 0 h6)))) else (RtI l D mX12_falls (zz ζ) [aP 97, aI x1] h5 (fun r9 h9 => (rg r9) ∧ (if ¬ r9 = 0 then (RtI l D mX12_throwsIf (zz ζ) [aP 97, aI 0] h9 (fun r10 h10 => (rg r10) ∧ (if r10 = 0 then ((rg x2) ∧ (if ¬ x2 = 0 then (RtI l D mX12_common (zz ζ) [aI (h10 97 28), aI (h10 97 29)] h10 (fun r11 h11 => (rg (h10 97 29)) ∧ (rg r11) ∧ (r11 ≠ 0) ∧ Q ((h10 97 29).tdiv r11) h11)) else (RtI l D mX12_common (zz ζ) [aI (h10 97 28), aI (h10 97 29)] h10 (fun r12 h12 => (rg (h10 97 28)) ∧ (rg r12) ∧ (r12 ≠ 0) ∧ Q ((h10 97 28).tdiv r12) h12)))) else (Q 0 h10)))) else (RtI l D mX12_throwsIf (zz ζ) [aP 97, aI 1] h9 (fun r13 h13 => (rg r13) ∧ (if r13 = 0 then ((rg x2) ∧ (if ¬ x2 = 0 then (RtI l D mX12_common (zz ζ) [aI (h13 97 28), aI (h13 97 29)] h13 (fun r14 h14 => (rg (h13 97 29)) ∧ (rg r14) ∧ (r14 ≠ 0) ∧ Q ((h13 97 29).tdiv r14) h14)) else (RtI l D mX12_common (zz ζ) [aI (h13 97 28), aI (h13 97 29)] h13 (fun r15 h15 => (rg (h13 97 28)) ∧ (rg r15) ∧ (r15 ≠ 0) ∧ Q ((h13 97 28).tdiv r15) h15)))) else (Q 0 h13))))))))))))) : RtI l (D + 1) mX12_fall (zz ζ) [aP 97, aI x1, aI x2] h Q := by
  refine RtI.of 0 pn_X12 [aP 97, aI x1, aI x2] rfl rfl ?_
  refine g_aload_n dX12_fall_0 rfl ?_
  refine g_aload_n dX12_fall_1 rfl ?_
  refine g_iload_n dX12_fall_2 rfl ?_
  refine g_callVI (n := 1) (As := [aI x1]) (st := [aP 97]) dX12_fall_3 ml_X12_304 sh_97 rfl (al_97 hn) rfl rfl (Nat.le_of_ble_eq_true rfl) (RtI.mono w (fun r1 h1 w => ?_))
  obtain ⟨o1, w⟩ := w
  refine g_if_eq (tgt := 26) dX12_fall_6 rfl o1 ?_
  refine ite_imp (fun w => ?_) (fun w => ?_) w
  · refine g_iconst dX12_fall_26 ?_
    refine g_goto (tgt := 31) dX12_fall_27 rfl ?_
    refine g_callVI (n := 1) (As := [aI 1]) (st := []) dX12_fall_31 ml_X12_320 sh_97 rfl (al_97 hn) rfl rfl (Nat.le_of_ble_eq_true rfl) (RtI.mono w (fun r2 h2 w => ?_))
    obtain ⟨o2, w⟩ := w
    refine g_if_eq (tgt := 39) dX12_fall_34 rfl o2 ?_
    refine ite_imp (fun w => ?_) (fun w => ?_) w
    · refine g_iload_n dX12_fall_39 rfl ?_
      obtain ⟨o3, w⟩ := w
      refine g_if_ne (tgt := 50) dX12_fall_40 rfl o3 ?_
      refine ite_imp (fun w => ?_) (fun w => ?_) w
      · refine g_aload_n dX12_fall_50 rfl ?_
        refine g_getI (J := 29) dX12_fall_51 fl_X12_341 sh_97 (al_97 hn) (fun _ _ _ => rfl) rfl ?_
        refine g_aload_n dX12_fall_54 rfl ?_
        refine g_getI (J := 28) dX12_fall_55 fl_X12_338 sh_97 (al_97 hn) (fun _ _ _ => rfl) rfl ?_
        refine g_aload_n dX12_fall_58 rfl ?_
        refine g_getI (J := 29) dX12_fall_59 fl_X12_341 sh_97 (al_97 hn) (fun _ _ _ => rfl) rfl ?_
        refine g_callSI (n := 2) (As := [aI (h2 97 28), aI (h2 97 29)]) (st := [aI (h2 97 29)]) dX12_fall_62 ml_X12_347 rfl rfl (Nat.le_of_ble_eq_true rfl) rfl (RtI.mono w (fun r3 h3 w => ?_))
        obtain ⟨o4, w⟩ := w
        obtain ⟨o5, w⟩ := w
        obtain ⟨o6, w⟩ := w
        refine g_idiv dX12_fall_65 o4 o5 o6 ?_
        exact g_retI dX12_fall_66 rfl w
      · refine g_aload_n dX12_fall_43 rfl ?_
        refine g_getI (J := 28) dX12_fall_44 fl_X12_338 sh_97 (al_97 hn) (fun _ _ _ => rfl) rfl ?_
        refine g_goto (tgt := 54) dX12_fall_47 rfl ?_
        refine g_aload_n dX12_fall_54 rfl ?_
        refine g_getI (J := 28) dX12_fall_55 fl_X12_338 sh_97 (al_97 hn) (fun _ _ _ => rfl) rfl ?_
        refine g_aload_n dX12_fall_58 rfl ?_
        refine g_getI (J := 29) dX12_fall_59 fl_X12_341 sh_97 (al_97 hn) (fun _ _ _ => rfl) rfl ?_
        refine g_callSI (n := 2) (As := [aI (h2 97 28), aI (h2 97 29)]) (st := [aI (h2 97 28)]) dX12_fall_62 ml_X12_347 rfl rfl (Nat.le_of_ble_eq_true rfl) rfl (RtI.mono w (fun r4 h4 w => ?_))
        obtain ⟨o7, w⟩ := w
        obtain ⟨o8, w⟩ := w
        obtain ⟨o9, w⟩ := w
        refine g_idiv dX12_fall_65 o7 o8 o9 ?_
        exact g_retI dX12_fall_66 rfl w
    · refine g_iconst dX12_fall_37 ?_
      exact g_retI dX12_fall_38 rfl w
  · refine g_iload_n dX12_fall_9 rfl ?_
    refine g_iconst dX12_fall_10 ?_
    refine g_iconst dX12_fall_11 ?_
    refine g_callSI (n := 3) (As := [aI x2, aI 0, aI 1]) (st := [aP 97]) dX12_fall_12 ml_X12_262 rfl rfl (Nat.le_of_ble_eq_true rfl) rfl (RtI.mono w (fun r5 h5 w => ?_))
    obtain ⟨o10, w⟩ := w
    refine g_if_eq (tgt := 26) dX12_fall_15 rfl o10 ?_
    refine ite_imp (fun w => ?_) (fun w => ?_) w
    · refine g_iconst dX12_fall_26 ?_
      refine g_goto (tgt := 31) dX12_fall_27 rfl ?_
      refine g_callVI (n := 1) (As := [aI 1]) (st := []) dX12_fall_31 ml_X12_320 sh_97 rfl (al_97 hn) rfl rfl (Nat.le_of_ble_eq_true rfl) (RtI.mono w (fun r6 h6 w => ?_))
      obtain ⟨o11, w⟩ := w
      refine g_if_eq (tgt := 39) dX12_fall_34 rfl o11 ?_
      refine ite_imp (fun w => ?_) (fun w => ?_) w
      · refine g_iload_n dX12_fall_39 rfl ?_
        obtain ⟨o12, w⟩ := w
        refine g_if_ne (tgt := 50) dX12_fall_40 rfl o12 ?_
        refine ite_imp (fun w => ?_) (fun w => ?_) w
        · refine g_aload_n dX12_fall_50 rfl ?_
          refine g_getI (J := 29) dX12_fall_51 fl_X12_341 sh_97 (al_97 hn) (fun _ _ _ => rfl) rfl ?_
          refine g_aload_n dX12_fall_54 rfl ?_
          refine g_getI (J := 28) dX12_fall_55 fl_X12_338 sh_97 (al_97 hn) (fun _ _ _ => rfl) rfl ?_
          refine g_aload_n dX12_fall_58 rfl ?_
          refine g_getI (J := 29) dX12_fall_59 fl_X12_341 sh_97 (al_97 hn) (fun _ _ _ => rfl) rfl ?_
          refine g_callSI (n := 2) (As := [aI (h6 97 28), aI (h6 97 29)]) (st := [aI (h6 97 29)]) dX12_fall_62 ml_X12_347 rfl rfl (Nat.le_of_ble_eq_true rfl) rfl (RtI.mono w (fun r7 h7 w => ?_))
          obtain ⟨o13, w⟩ := w
          obtain ⟨o14, w⟩ := w
          obtain ⟨o15, w⟩ := w
          refine g_idiv dX12_fall_65 o13 o14 o15 ?_
          exact g_retI dX12_fall_66 rfl w
        · refine g_aload_n dX12_fall_43 rfl ?_
          refine g_getI (J := 28) dX12_fall_44 fl_X12_338 sh_97 (al_97 hn) (fun _ _ _ => rfl) rfl ?_
          refine g_goto (tgt := 54) dX12_fall_47 rfl ?_
          refine g_aload_n dX12_fall_54 rfl ?_
          refine g_getI (J := 28) dX12_fall_55 fl_X12_338 sh_97 (al_97 hn) (fun _ _ _ => rfl) rfl ?_
          refine g_aload_n dX12_fall_58 rfl ?_
          refine g_getI (J := 29) dX12_fall_59 fl_X12_341 sh_97 (al_97 hn) (fun _ _ _ => rfl) rfl ?_
          refine g_callSI (n := 2) (As := [aI (h6 97 28), aI (h6 97 29)]) (st := [aI (h6 97 28)]) dX12_fall_62 ml_X12_347 rfl rfl (Nat.le_of_ble_eq_true rfl) rfl (RtI.mono w (fun r8 h8 w => ?_))
          obtain ⟨o16, w⟩ := w
          obtain ⟨o17, w⟩ := w
          obtain ⟨o18, w⟩ := w
          refine g_idiv dX12_fall_65 o16 o17 o18 ?_
          exact g_retI dX12_fall_66 rfl w
      · refine g_iconst dX12_fall_37 ?_
        exact g_retI dX12_fall_38 rfl w
    · refine g_aload_n dX12_fall_18 rfl ?_
      refine g_iload_n dX12_fall_19 rfl ?_
      refine g_callVI (n := 1) (As := [aI x1]) (st := [aP 97]) dX12_fall_20 ml_X12_344 sh_97 rfl (al_97 hn) rfl rfl (Nat.le_of_ble_eq_true rfl) (RtI.mono w (fun r9 h9 w => ?_))
      obtain ⟨o19, w⟩ := w
      refine g_if_ne (tgt := 30) dX12_fall_23 rfl o19 ?_
      refine ite_imp (fun w => ?_) (fun w => ?_) w
      · refine g_iconst dX12_fall_30 ?_
        refine g_callVI (n := 1) (As := [aI 0]) (st := []) dX12_fall_31 ml_X12_320 sh_97 rfl (al_97 hn) rfl rfl (Nat.le_of_ble_eq_true rfl) (RtI.mono w (fun r10 h10 w => ?_))
        obtain ⟨o20, w⟩ := w
        refine g_if_eq (tgt := 39) dX12_fall_34 rfl o20 ?_
        refine ite_imp (fun w => ?_) (fun w => ?_) w
        · refine g_iload_n dX12_fall_39 rfl ?_
          obtain ⟨o21, w⟩ := w
          refine g_if_ne (tgt := 50) dX12_fall_40 rfl o21 ?_
          refine ite_imp (fun w => ?_) (fun w => ?_) w
          · refine g_aload_n dX12_fall_50 rfl ?_
            refine g_getI (J := 29) dX12_fall_51 fl_X12_341 sh_97 (al_97 hn) (fun _ _ _ => rfl) rfl ?_
            refine g_aload_n dX12_fall_54 rfl ?_
            refine g_getI (J := 28) dX12_fall_55 fl_X12_338 sh_97 (al_97 hn) (fun _ _ _ => rfl) rfl ?_
            refine g_aload_n dX12_fall_58 rfl ?_
            refine g_getI (J := 29) dX12_fall_59 fl_X12_341 sh_97 (al_97 hn) (fun _ _ _ => rfl) rfl ?_
            refine g_callSI (n := 2) (As := [aI (h10 97 28), aI (h10 97 29)]) (st := [aI (h10 97 29)]) dX12_fall_62 ml_X12_347 rfl rfl (Nat.le_of_ble_eq_true rfl) rfl (RtI.mono w (fun r11 h11 w => ?_))
            obtain ⟨o22, w⟩ := w
            obtain ⟨o23, w⟩ := w
            obtain ⟨o24, w⟩ := w
            refine g_idiv dX12_fall_65 o22 o23 o24 ?_
            exact g_retI dX12_fall_66 rfl w
          · refine g_aload_n dX12_fall_43 rfl ?_
            refine g_getI (J := 28) dX12_fall_44 fl_X12_338 sh_97 (al_97 hn) (fun _ _ _ => rfl) rfl ?_
            refine g_goto (tgt := 54) dX12_fall_47 rfl ?_
            refine g_aload_n dX12_fall_54 rfl ?_
            refine g_getI (J := 28) dX12_fall_55 fl_X12_338 sh_97 (al_97 hn) (fun _ _ _ => rfl) rfl ?_
            refine g_aload_n dX12_fall_58 rfl ?_
            refine g_getI (J := 29) dX12_fall_59 fl_X12_341 sh_97 (al_97 hn) (fun _ _ _ => rfl) rfl ?_
            refine g_callSI (n := 2) (As := [aI (h10 97 28), aI (h10 97 29)]) (st := [aI (h10 97 28)]) dX12_fall_62 ml_X12_347 rfl rfl (Nat.le_of_ble_eq_true rfl) rfl (RtI.mono w (fun r12 h12 w => ?_))
            obtain ⟨o25, w⟩ := w
            obtain ⟨o26, w⟩ := w
            obtain ⟨o27, w⟩ := w
            refine g_idiv dX12_fall_65 o25 o26 o27 ?_
            exact g_retI dX12_fall_66 rfl w
        · refine g_iconst dX12_fall_37 ?_
          exact g_retI dX12_fall_38 rfl w
      · refine g_iconst dX12_fall_26 ?_
        refine g_goto (tgt := 31) dX12_fall_27 rfl ?_
        refine g_callVI (n := 1) (As := [aI 1]) (st := []) dX12_fall_31 ml_X12_320 sh_97 rfl (al_97 hn) rfl rfl (Nat.le_of_ble_eq_true rfl) (RtI.mono w (fun r13 h13 w => ?_))
        obtain ⟨o28, w⟩ := w
        refine g_if_eq (tgt := 39) dX12_fall_34 rfl o28 ?_
        refine ite_imp (fun w => ?_) (fun w => ?_) w
        · refine g_iload_n dX12_fall_39 rfl ?_
          obtain ⟨o29, w⟩ := w
          refine g_if_ne (tgt := 50) dX12_fall_40 rfl o29 ?_
          refine ite_imp (fun w => ?_) (fun w => ?_) w
          · refine g_aload_n dX12_fall_50 rfl ?_
            refine g_getI (J := 29) dX12_fall_51 fl_X12_341 sh_97 (al_97 hn) (fun _ _ _ => rfl) rfl ?_
            refine g_aload_n dX12_fall_54 rfl ?_
            refine g_getI (J := 28) dX12_fall_55 fl_X12_338 sh_97 (al_97 hn) (fun _ _ _ => rfl) rfl ?_
            refine g_aload_n dX12_fall_58 rfl ?_
            refine g_getI (J := 29) dX12_fall_59 fl_X12_341 sh_97 (al_97 hn) (fun _ _ _ => rfl) rfl ?_
            refine g_callSI (n := 2) (As := [aI (h13 97 28), aI (h13 97 29)]) (st := [aI (h13 97 29)]) dX12_fall_62 ml_X12_347 rfl rfl (Nat.le_of_ble_eq_true rfl) rfl (RtI.mono w (fun r14 h14 w => ?_))
            obtain ⟨o30, w⟩ := w
            obtain ⟨o31, w⟩ := w
            obtain ⟨o32, w⟩ := w
            refine g_idiv dX12_fall_65 o30 o31 o32 ?_
            exact g_retI dX12_fall_66 rfl w
          · refine g_aload_n dX12_fall_43 rfl ?_
            refine g_getI (J := 28) dX12_fall_44 fl_X12_338 sh_97 (al_97 hn) (fun _ _ _ => rfl) rfl ?_
            refine g_goto (tgt := 54) dX12_fall_47 rfl ?_
            refine g_aload_n dX12_fall_54 rfl ?_
            refine g_getI (J := 28) dX12_fall_55 fl_X12_338 sh_97 (al_97 hn) (fun _ _ _ => rfl) rfl ?_
            refine g_aload_n dX12_fall_58 rfl ?_
            refine g_getI (J := 29) dX12_fall_59 fl_X12_341 sh_97 (al_97 hn) (fun _ _ _ => rfl) rfl ?_
            refine g_callSI (n := 2) (As := [aI (h13 97 28), aI (h13 97 29)]) (st := [aI (h13 97 28)]) dX12_fall_62 ml_X12_347 rfl rfl (Nat.le_of_ble_eq_true rfl) rfl (RtI.mono w (fun r15 h15 w => ?_))
            obtain ⟨o33, w⟩ := w
            obtain ⟨o34, w⟩ := w
            obtain ⟨o35, w⟩ := w
            refine g_idiv dX12_fall_65 o33 o34 o35 ?_
            exact g_retI dX12_fall_66 rfl w
        · refine g_iconst dX12_fall_37 ?_
          exact g_retI dX12_fall_38 rfl w
theorem b_X12_liesOf_46 {l : Launch} {D : Nat} {ζ : ZP} {h : HI} {Q : Int → HI → Prop} {x1 x2 x3 : Int} (hn : 144 ≤ ζ.2.2.2.2) (w : (rg x3) ∧ (if x3 < 0 then (Q x2 h) else ((0 ≤ ((877 + (4 * x3)) + 3) ∧ ((877 + (4 * x3)) + 3) < 2819) ∧ (rg (h 99 ((877 + (4 * x3)) + 3))) ∧ (rg (h 99 10)) ∧ (if (h 99 ((877 + (4 * x3)) + 3)) < (h 99 10) then (G l (D + 1) 0 0 mX12_liesOf (zz ζ) 80 [aP 97, aI x1, aU, aI x3, aU, aU] [aI 0, aI x2] h (qI (zz ζ) Q)) else (G l (D + 1) 0 0 mX12_liesOf (zz ζ) 80 [aP 97, aI x1, aU, aI x3, aU, aU] [aI 4, aI x2] h (qI (zz ζ) Q)))))) : G l (D + 1) 0 0 mX12_liesOf (zz ζ) 46 [aP 97, aI x1, aI x2, aI x3, aU, aU] [] h (qI (zz ζ) Q) := by
  refine g_iload_n dX12_liesOf_46 rfl ?_
  obtain ⟨o1, w⟩ := w
  refine g_if_lt (tgt := 191) dX12_liesOf_47 rfl o1 ?_
  refine ite_imp (fun w => ?_) (fun w => ?_) w
  · refine g_iload_n dX12_liesOf_191 rfl ?_
    exact g_retI dX12_liesOf_192 rfl w
  · refine g_iload_n dX12_liesOf_50 rfl ?_
    refine g_aload_n dX12_liesOf_51 rfl ?_
    refine g_getR dX12_liesOf_52 fl_X12_33 sh_97 (al_97 hn) (fun _ _ _ => rfl) rf_97_6 ?_
    refine g_sipush dX12_liesOf_55 rfl ?_
    refine g_iconst dX12_liesOf_58 ?_
    refine g_iload_n dX12_liesOf_59 rfl ?_
    refine g_imul dX12_liesOf_60 ?_
    refine g_iadd dX12_liesOf_61 ?_
    refine g_iconst dX12_liesOf_62 ?_
    refine g_iadd dX12_liesOf_63 ?_
    obtain ⟨o2, w⟩ := w
    refine g_iald dX12_liesOf_64 sh_99 (al_99 hn) (Nat.le_of_ble_eq_true rfl) o2 ?_
    refine g_aload_n dX12_liesOf_65 rfl ?_
    refine g_getR dX12_liesOf_66 fl_X12_33 sh_97 (al_97 hn) (fun _ _ _ => rfl) rf_97_6 ?_
    refine g_bipush dX12_liesOf_69 rfl ?_
    refine g_iald dX12_liesOf_71 sh_99 (al_99 hn) (Nat.le_of_ble_eq_true rfl) (by decide) ?_
    obtain ⟨o3, w⟩ := w
    obtain ⟨o4, w⟩ := w
    refine g_cmp_lt (tgt := 79) dX12_liesOf_72 rfl o3 o4 ?_
    refine ite_imp (fun w => ?_) (fun w => ?_) w
    · refine g_iconst dX12_liesOf_79 ?_
      exact g_sub (ls' := [aP 97, aI x1, aU, aI x3, aU, aU]) ⟨Or.inr rfl, Or.inr rfl, Or.inl rfl, Or.inr rfl, Or.inl rfl, Or.inl rfl, trivial⟩ w
    · refine g_iconst dX12_liesOf_75 ?_
      refine g_goto (tgt := 80) dX12_liesOf_76 rfl ?_
      exact g_sub (ls' := [aP 97, aI x1, aU, aI x3, aU, aU]) ⟨Or.inr rfl, Or.inr rfl, Or.inl rfl, Or.inr rfl, Or.inl rfl, Or.inl rfl, trivial⟩ w
theorem b_X12_liesOf_80 {l : Launch} {D : Nat} {ζ : ZP} {h : HI} {Q : Int → HI → Prop} {s0 s1 x1 x3 : Int} (hn : 144 ≤ ζ.2.2.2.2) (w : RtI l D mX12_restAhead (zz ζ) [aP 97, aI x1, aI x3] h (fun r1 h1 => (rg r1) ∧ (if 0 ≤ r1 then ((0 ≤ ((877 + (4 * r1)) + 2) ∧ ((877 + (4 * r1)) + 2) < 2819) ∧ (0 ≤ ((877 + (4 * x3)) + 2) ∧ ((877 + (4 * x3)) + 2) < 2819) ∧ (0 ≤ ((877 + (4 * x3)) + 1) ∧ ((877 + (4 * x3)) + 1) < 2819) ∧ (0 ≤ ((877 + (4 * r1)) + 1) ∧ ((877 + (4 * r1)) + 1) < 2819) ∧ (rg ((h1 99 ((877 + (4 * r1)) + 2)) - (h1 99 ((877 + (4 * x3)) + 2)))) ∧ (rg ((h1 99 9) * ((h1 99 ((877 + (4 * x3)) + 1)) - (h1 99 ((877 + (4 * r1)) + 1))))) ∧ (if ((h1 99 ((877 + (4 * r1)) + 2)) - (h1 99 ((877 + (4 * x3)) + 2))) ≤ ((h1 99 9) * ((h1 99 ((877 + (4 * x3)) + 1)) - (h1 99 ((877 + (4 * r1)) + 1)))) then (RtI l D mX12_restAhead (zz ζ) [aP 97, aI x1, aI x3] h1 (fun r2 h2 => G l (D + 1) 0 0 mX12_liesOf (zz ζ) 46 [aP 97, aI x1, aI (bor (bor s1 s0) 0), aI r2, aU, aU] [] h2 (qI (zz ζ) Q))) else (RtI l D mX12_restAhead (zz ζ) [aP 97, aI x1, aI x3] h1 (fun r3 h3 => G l (D + 1) 0 0 mX12_liesOf (zz ζ) 46 [aP 97, aI x1, aI (bor (bor s1 s0) 2), aI r3, aU, aU] [] h3 (qI (zz ζ) Q))))) else (RtI l D mX12_restAhead (zz ζ) [aP 97, aI x1, aI x3] h1 (fun r4 h4 => G l (D + 1) 0 0 mX12_liesOf (zz ζ) 46 [aP 97, aI x1, aI (bor s1 s0), aI r4, aU, aU] [] h4 (qI (zz ζ) Q)))))) : G l (D + 1) 0 0 mX12_liesOf (zz ζ) 80 [aP 97, aI x1, aU, aI x3, aU, aU] [aI s0, aI s1] h (qI (zz ζ) Q) := by
  refine g_ior dX12_liesOf_80 ?_
  refine g_istore_n (ls' := [aP 97, aI x1, aI (bor s1 s0), aI x3, aU, aU]) dX12_liesOf_81 (Nat.le_of_ble_eq_true rfl) rfl rfl ?_
  refine g_aload_n dX12_liesOf_82 rfl ?_
  refine g_iload_n dX12_liesOf_83 rfl ?_
  refine g_iload_n dX12_liesOf_84 rfl ?_
  refine g_callVI (n := 2) (As := [aI x1, aI x3]) (st := []) dX12_liesOf_85 ml_X12_307 sh_97 rfl (al_97 hn) rfl rfl (Nat.le_of_ble_eq_true rfl) (RtI.mono w (fun r1 h1 w => ?_))
  refine g_istore (ls' := [aP 97, aI x1, aI (bor s1 s0), aI x3, aI r1, aU]) dX12_liesOf_88 (Nat.le_of_ble_eq_true rfl) rfl rfl ?_
  refine g_iload dX12_liesOf_90 rfl ?_
  obtain ⟨o1, w⟩ := w
  refine g_if_ge (tgt := 98) dX12_liesOf_92 rfl o1 ?_
  refine ite_imp (fun w => ?_) (fun w => ?_) w
  · refine g_aload_n dX12_liesOf_98 rfl ?_
    refine g_getR dX12_liesOf_99 fl_X12_33 sh_97 (al_97 hn) (fun _ _ _ => rfl) rf_97_6 ?_
    refine g_sipush dX12_liesOf_102 rfl ?_
    refine g_iconst dX12_liesOf_105 ?_
    refine g_iload dX12_liesOf_106 rfl ?_
    refine g_imul dX12_liesOf_108 ?_
    refine g_iadd dX12_liesOf_109 ?_
    refine g_iconst dX12_liesOf_110 ?_
    refine g_iadd dX12_liesOf_111 ?_
    obtain ⟨o2, w⟩ := w
    refine g_iald dX12_liesOf_112 sh_99 (al_99 hn) (Nat.le_of_ble_eq_true rfl) o2 ?_
    refine g_aload_n dX12_liesOf_113 rfl ?_
    refine g_getR dX12_liesOf_114 fl_X12_33 sh_97 (al_97 hn) (fun _ _ _ => rfl) rf_97_6 ?_
    refine g_sipush dX12_liesOf_117 rfl ?_
    refine g_iconst dX12_liesOf_120 ?_
    refine g_iload_n dX12_liesOf_121 rfl ?_
    refine g_imul dX12_liesOf_122 ?_
    refine g_iadd dX12_liesOf_123 ?_
    refine g_iconst dX12_liesOf_124 ?_
    refine g_iadd dX12_liesOf_125 ?_
    obtain ⟨o3, w⟩ := w
    refine g_iald dX12_liesOf_126 sh_99 (al_99 hn) (Nat.le_of_ble_eq_true rfl) o3 ?_
    refine g_isub dX12_liesOf_127 ?_
    refine g_istore (ls' := [aP 97, aI x1, aI (bor s1 s0), aI x3, aI r1, aI ((h1 99 ((877 + (4 * r1)) + 2)) - (h1 99 ((877 + (4 * x3)) + 2)))]) dX12_liesOf_128 (Nat.le_of_ble_eq_true rfl) rfl rfl ?_
    refine g_iload_n dX12_liesOf_130 rfl ?_
    refine g_iload dX12_liesOf_131 rfl ?_
    refine g_aload_n dX12_liesOf_133 rfl ?_
    refine g_getR dX12_liesOf_134 fl_X12_33 sh_97 (al_97 hn) (fun _ _ _ => rfl) rf_97_6 ?_
    refine g_bipush dX12_liesOf_137 rfl ?_
    refine g_iald dX12_liesOf_139 sh_99 (al_99 hn) (Nat.le_of_ble_eq_true rfl) (by decide) ?_
    refine g_aload_n dX12_liesOf_140 rfl ?_
    refine g_getR dX12_liesOf_141 fl_X12_33 sh_97 (al_97 hn) (fun _ _ _ => rfl) rf_97_6 ?_
    refine g_sipush dX12_liesOf_144 rfl ?_
    refine g_iconst dX12_liesOf_147 ?_
    refine g_iload_n dX12_liesOf_148 rfl ?_
    refine g_imul dX12_liesOf_149 ?_
    refine g_iadd dX12_liesOf_150 ?_
    refine g_iconst dX12_liesOf_151 ?_
    refine g_iadd dX12_liesOf_152 ?_
    obtain ⟨o4, w⟩ := w
    refine g_iald dX12_liesOf_153 sh_99 (al_99 hn) (Nat.le_of_ble_eq_true rfl) o4 ?_
    refine g_aload_n dX12_liesOf_154 rfl ?_
    refine g_getR dX12_liesOf_155 fl_X12_33 sh_97 (al_97 hn) (fun _ _ _ => rfl) rf_97_6 ?_
    refine g_sipush dX12_liesOf_158 rfl ?_
    refine g_iconst dX12_liesOf_161 ?_
    refine g_iload dX12_liesOf_162 rfl ?_
    refine g_imul dX12_liesOf_164 ?_
    refine g_iadd dX12_liesOf_165 ?_
    refine g_iconst dX12_liesOf_166 ?_
    refine g_iadd dX12_liesOf_167 ?_
    obtain ⟨o5, w⟩ := w
    refine g_iald dX12_liesOf_168 sh_99 (al_99 hn) (Nat.le_of_ble_eq_true rfl) o5 ?_
    refine g_isub dX12_liesOf_169 ?_
    refine g_imul dX12_liesOf_170 ?_
    obtain ⟨o6, w⟩ := w
    obtain ⟨o7, w⟩ := w
    refine g_cmp_le (tgt := 178) dX12_liesOf_171 rfl o6 o7 ?_
    refine ite_imp (fun w => ?_) (fun w => ?_) w
    · refine g_iconst dX12_liesOf_178 ?_
      refine g_ior dX12_liesOf_179 ?_
      refine g_istore_n (ls' := [aP 97, aI x1, aI (bor (bor s1 s0) 0), aI x3, aI r1, aI ((h1 99 ((877 + (4 * r1)) + 2)) - (h1 99 ((877 + (4 * x3)) + 2)))]) dX12_liesOf_180 (Nat.le_of_ble_eq_true rfl) rfl rfl ?_
      refine g_aload_n dX12_liesOf_181 rfl ?_
      refine g_iload_n dX12_liesOf_182 rfl ?_
      refine g_iload_n dX12_liesOf_183 rfl ?_
      refine g_callVI (n := 2) (As := [aI x1, aI x3]) (st := []) dX12_liesOf_184 ml_X12_307 sh_97 rfl (al_97 hn) rfl rfl (Nat.le_of_ble_eq_true rfl) (RtI.mono w (fun r2 h2 w => ?_))
      refine g_istore_n (ls' := [aP 97, aI x1, aI (bor (bor s1 s0) 0), aI r2, aI r1, aI ((h1 99 ((877 + (4 * r1)) + 2)) - (h1 99 ((877 + (4 * x3)) + 2)))]) dX12_liesOf_187 (Nat.le_of_ble_eq_true rfl) rfl rfl ?_
      refine g_goto (tgt := 46) dX12_liesOf_188 rfl ?_
      exact g_sub (ls' := [aP 97, aI x1, aI (bor (bor s1 s0) 0), aI r2, aU, aU]) ⟨Or.inr rfl, Or.inr rfl, Or.inr rfl, Or.inr rfl, Or.inl rfl, Or.inl rfl, trivial⟩ w
    · refine g_iconst dX12_liesOf_174 ?_
      refine g_goto (tgt := 179) dX12_liesOf_175 rfl ?_
      refine g_ior dX12_liesOf_179 ?_
      refine g_istore_n (ls' := [aP 97, aI x1, aI (bor (bor s1 s0) 2), aI x3, aI r1, aI ((h1 99 ((877 + (4 * r1)) + 2)) - (h1 99 ((877 + (4 * x3)) + 2)))]) dX12_liesOf_180 (Nat.le_of_ble_eq_true rfl) rfl rfl ?_
      refine g_aload_n dX12_liesOf_181 rfl ?_
      refine g_iload_n dX12_liesOf_182 rfl ?_
      refine g_iload_n dX12_liesOf_183 rfl ?_
      refine g_callVI (n := 2) (As := [aI x1, aI x3]) (st := []) dX12_liesOf_184 ml_X12_307 sh_97 rfl (al_97 hn) rfl rfl (Nat.le_of_ble_eq_true rfl) (RtI.mono w (fun r3 h3 w => ?_))
      refine g_istore_n (ls' := [aP 97, aI x1, aI (bor (bor s1 s0) 2), aI r3, aI r1, aI ((h1 99 ((877 + (4 * r1)) + 2)) - (h1 99 ((877 + (4 * x3)) + 2)))]) dX12_liesOf_187 (Nat.le_of_ble_eq_true rfl) rfl rfl ?_
      refine g_goto (tgt := 46) dX12_liesOf_188 rfl ?_
      exact g_sub (ls' := [aP 97, aI x1, aI (bor (bor s1 s0) 2), aI r3, aU, aU]) ⟨Or.inr rfl, Or.inr rfl, Or.inr rfl, Or.inr rfl, Or.inl rfl, Or.inl rfl, trivial⟩ w
  · refine g_goto (tgt := 181) dX12_liesOf_95 rfl ?_
    refine g_aload_n dX12_liesOf_181 rfl ?_
    refine g_iload_n dX12_liesOf_182 rfl ?_
    refine g_iload_n dX12_liesOf_183 rfl ?_
    refine g_callVI (n := 2) (As := [aI x1, aI x3]) (st := []) dX12_liesOf_184 ml_X12_307 sh_97 rfl (al_97 hn) rfl rfl (Nat.le_of_ble_eq_true rfl) (RtI.mono w (fun r4 h4 w => ?_))
    refine g_istore_n (ls' := [aP 97, aI x1, aI (bor s1 s0), aI r4, aI r1, aU]) dX12_liesOf_187 (Nat.le_of_ble_eq_true rfl) rfl rfl ?_
    refine g_goto (tgt := 46) dX12_liesOf_188 rfl ?_
    exact g_sub (ls' := [aP 97, aI x1, aI (bor s1 s0), aI r4, aU, aU]) ⟨Or.inr rfl, Or.inr rfl, Or.inr rfl, Or.inr rfl, Or.inl rfl, Or.inl rfl, trivial⟩ w
theorem e_X12_liesOf {l : Launch} {D : Nat} {ζ : ZP} {h : HI} {Q : Int → HI → Prop} {x1 : Int} (hn : 144 ≤ ζ.2.2.2.2) (w : RtI l D mX12_falls (zz ζ) [aP 97, aI x1] h (fun r1 h1 => (rg r1) ∧ (if r1 = 0 then (RtI l D mX12_restAhead (zz ζ) [aP 97, aI x1, aI (h1 99 13)] h1 (fun r2 h2 => G l (D + 1) 0 0 mX12_liesOf (zz ζ) 46 [aP 97, aI x1, aI 0, aI r2, aU, aU] [] h2 (qI (zz ζ) Q))) else ((rg (h1 97 28)) ∧ (rg ((h1 99 8) * (h1 97 29))) ∧ (if (h1 97 28) ≤ ((h1 99 8) * (h1 97 29)) then (RtI l D mX12_restAhead (zz ζ) [aP 97, aI x1, aI (h1 99 13)] h1 (fun r3 h3 => G l (D + 1) 0 0 mX12_liesOf (zz ζ) 46 [aP 97, aI x1, aI 0, aI r3, aU, aU] [] h3 (qI (zz ζ) Q))) else (RtI l D mX12_restAhead (zz ζ) [aP 97, aI x1, aI (h1 99 13)] h1 (fun r4 h4 => G l (D + 1) 0 0 mX12_liesOf (zz ζ) 46 [aP 97, aI x1, aI 1, aI r4, aU, aU] [] h4 (qI (zz ζ) Q)))))))) : RtI l (D + 1) mX12_liesOf (zz ζ) [aP 97, aI x1] h Q := by
  refine RtI.of 4 pn_X12 [aP 97, aI x1, aU, aU, aU, aU] rfl rfl ?_
  refine g_aload_n dX12_liesOf_0 rfl ?_
  refine g_iload_n dX12_liesOf_1 rfl ?_
  refine g_callVI (n := 1) (As := [aI x1]) (st := []) dX12_liesOf_2 ml_X12_344 sh_97 rfl (al_97 hn) rfl rfl (Nat.le_of_ble_eq_true rfl) (RtI.mono w (fun r1 h1 w => ?_))
  obtain ⟨o1, w⟩ := w
  refine g_if_eq (tgt := 31) dX12_liesOf_5 rfl o1 ?_
  refine ite_imp (fun w => ?_) (fun w => ?_) w
  · refine g_iconst dX12_liesOf_31 ?_
    refine g_istore_n (ls' := [aP 97, aI x1, aI 0, aU, aU, aU]) dX12_liesOf_32 (Nat.le_of_ble_eq_true rfl) rfl rfl ?_
    refine g_aload_n dX12_liesOf_33 rfl ?_
    refine g_iload_n dX12_liesOf_34 rfl ?_
    refine g_aload_n dX12_liesOf_35 rfl ?_
    refine g_getR dX12_liesOf_36 fl_X12_33 sh_97 (al_97 hn) (fun _ _ _ => rfl) rf_97_6 ?_
    refine g_bipush dX12_liesOf_39 rfl ?_
    refine g_iald dX12_liesOf_41 sh_99 (al_99 hn) (Nat.le_of_ble_eq_true rfl) (by decide) ?_
    refine g_callVI (n := 2) (As := [aI x1, aI (h1 99 13)]) (st := []) dX12_liesOf_42 ml_X12_307 sh_97 rfl (al_97 hn) rfl rfl (Nat.le_of_ble_eq_true rfl) (RtI.mono w (fun r2 h2 w => ?_))
    refine g_istore_n (ls' := [aP 97, aI x1, aI 0, aI r2, aU, aU]) dX12_liesOf_45 (Nat.le_of_ble_eq_true rfl) rfl rfl ?_
    exact g_sub (ls' := [aP 97, aI x1, aI 0, aI r2, aU, aU]) ⟨Or.inr rfl, Or.inr rfl, Or.inr rfl, Or.inr rfl, Or.inl rfl, Or.inl rfl, trivial⟩ w
  · refine g_aload_n dX12_liesOf_8 rfl ?_
    refine g_getI (J := 28) dX12_liesOf_9 fl_X12_338 sh_97 (al_97 hn) (fun _ _ _ => rfl) rfl ?_
    refine g_aload_n dX12_liesOf_12 rfl ?_
    refine g_getR dX12_liesOf_13 fl_X12_33 sh_97 (al_97 hn) (fun _ _ _ => rfl) rf_97_6 ?_
    refine g_bipush dX12_liesOf_16 rfl ?_
    refine g_iald dX12_liesOf_18 sh_99 (al_99 hn) (Nat.le_of_ble_eq_true rfl) (by decide) ?_
    refine g_aload_n dX12_liesOf_19 rfl ?_
    refine g_getI (J := 29) dX12_liesOf_20 fl_X12_341 sh_97 (al_97 hn) (fun _ _ _ => rfl) rfl ?_
    refine g_imul dX12_liesOf_23 ?_
    obtain ⟨o2, w⟩ := w
    obtain ⟨o3, w⟩ := w
    refine g_cmp_le (tgt := 31) dX12_liesOf_24 rfl o2 o3 ?_
    refine ite_imp (fun w => ?_) (fun w => ?_) w
    · refine g_iconst dX12_liesOf_31 ?_
      refine g_istore_n (ls' := [aP 97, aI x1, aI 0, aU, aU, aU]) dX12_liesOf_32 (Nat.le_of_ble_eq_true rfl) rfl rfl ?_
      refine g_aload_n dX12_liesOf_33 rfl ?_
      refine g_iload_n dX12_liesOf_34 rfl ?_
      refine g_aload_n dX12_liesOf_35 rfl ?_
      refine g_getR dX12_liesOf_36 fl_X12_33 sh_97 (al_97 hn) (fun _ _ _ => rfl) rf_97_6 ?_
      refine g_bipush dX12_liesOf_39 rfl ?_
      refine g_iald dX12_liesOf_41 sh_99 (al_99 hn) (Nat.le_of_ble_eq_true rfl) (by decide) ?_
      refine g_callVI (n := 2) (As := [aI x1, aI (h1 99 13)]) (st := []) dX12_liesOf_42 ml_X12_307 sh_97 rfl (al_97 hn) rfl rfl (Nat.le_of_ble_eq_true rfl) (RtI.mono w (fun r3 h3 w => ?_))
      refine g_istore_n (ls' := [aP 97, aI x1, aI 0, aI r3, aU, aU]) dX12_liesOf_45 (Nat.le_of_ble_eq_true rfl) rfl rfl ?_
      exact g_sub (ls' := [aP 97, aI x1, aI 0, aI r3, aU, aU]) ⟨Or.inr rfl, Or.inr rfl, Or.inr rfl, Or.inr rfl, Or.inl rfl, Or.inl rfl, trivial⟩ w
    · refine g_iconst dX12_liesOf_27 ?_
      refine g_goto (tgt := 32) dX12_liesOf_28 rfl ?_
      refine g_istore_n (ls' := [aP 97, aI x1, aI 1, aU, aU, aU]) dX12_liesOf_32 (Nat.le_of_ble_eq_true rfl) rfl rfl ?_
      refine g_aload_n dX12_liesOf_33 rfl ?_
      refine g_iload_n dX12_liesOf_34 rfl ?_
      refine g_aload_n dX12_liesOf_35 rfl ?_
      refine g_getR dX12_liesOf_36 fl_X12_33 sh_97 (al_97 hn) (fun _ _ _ => rfl) rf_97_6 ?_
      refine g_bipush dX12_liesOf_39 rfl ?_
      refine g_iald dX12_liesOf_41 sh_99 (al_99 hn) (Nat.le_of_ble_eq_true rfl) (by decide) ?_
      refine g_callVI (n := 2) (As := [aI x1, aI (h1 99 13)]) (st := []) dX12_liesOf_42 ml_X12_307 sh_97 rfl (al_97 hn) rfl rfl (Nat.le_of_ble_eq_true rfl) (RtI.mono w (fun r4 h4 w => ?_))
      refine g_istore_n (ls' := [aP 97, aI x1, aI 1, aI r4, aU, aU]) dX12_liesOf_45 (Nat.le_of_ble_eq_true rfl) rfl rfl ?_
      exact g_sub (ls' := [aP 97, aI x1, aI 1, aI r4, aU, aU]) ⟨Or.inr rfl, Or.inr rfl, Or.inr rfl, Or.inr rfl, Or.inl rfl, Or.inl rfl, trivial⟩ w
theorem e_X12_lies {l : Launch} {D : Nat} {ζ : ZP} {h : HI} {Q : Int → HI → Prop} {x1 : Int} (hn : 144 ≤ ζ.2.2.2.2) (w : RtI l D mX12_isCell (zz ζ) [aP 97, aI x1] (hu h 97 0 0) (fun r1 h1 => (rg r1) ∧ (if r1 = 0 then (Q (-1) h1) else (RtI l D mX12_liesOf (zz ζ) [aP 97, aI x1] h1 (fun r2 h2 => Q r2 h2))))) : RtI l (D + 1) mX12_lies (zz ζ) [aP 97, aI x1] h Q := by
  refine RtI.of 0 pn_X12 [aP 97, aI x1] rfl rfl ?_
  refine g_aload_n dX12_lies_0 rfl ?_
  refine g_iconst dX12_lies_1 ?_
  refine g_putI (J := 0) dX12_lies_2 fl_X12_1 sh_97 (al_97 hn) rfl rfl ?_
  refine g_aload_n dX12_lies_5 rfl ?_
  refine g_iload_n dX12_lies_6 rfl ?_
  refine g_callVI (n := 1) (As := [aI x1]) (st := []) dX12_lies_7 ml_X12_304 sh_97 rfl (al_97 hn) rfl rfl (Nat.le_of_ble_eq_true rfl) (RtI.mono w (fun r1 h1 w => ?_))
  obtain ⟨o1, w⟩ := w
  refine g_if_eq (tgt := 21) dX12_lies_10 rfl o1 ?_
  refine ite_imp (fun w => ?_) (fun w => ?_) w
  · refine g_iconst dX12_lies_21 ?_
    exact g_retI dX12_lies_22 rfl w
  · refine g_aload_n dX12_lies_13 rfl ?_
    refine g_iload_n dX12_lies_14 rfl ?_
    refine g_callVI (n := 1) (As := [aI x1]) (st := []) dX12_lies_15 ml_X12_350 sh_97 rfl (al_97 hn) rfl rfl (Nat.le_of_ble_eq_true rfl) (RtI.mono w (fun r2 h2 w => ?_))
    refine g_goto (tgt := 22) dX12_lies_18 rfl ?_
    exact g_retI dX12_lies_22 rfl w
theorem e_X12_days {l : Launch} {D : Nat} {ζ : ZP} {h : HI} {Q : Int → HI → Prop} {x1 : Int} (hn : 144 ≤ ζ.2.2.2.2) (w : RtI l D mX12_isIn (zz ζ) [aI x1, aI 1, aI 99] (hu h 97 0 0) (fun r1 h1 => (rg r1) ∧ (if r1 = 0 then (Q (-1) h1) else ((rg (2 * (h1 99 7))) ∧ (rg x1) ∧ (x1 ≠ 0) ∧ Q (((2 * (h1 99 7)).tdiv x1) + 1) h1)))) : RtI l (D + 1) mX12_days (zz ζ) [aP 97, aI x1] h Q := by
  refine RtI.of 0 pn_X12 [aP 97, aI x1] rfl rfl ?_
  refine g_aload_n dX12_days_0 rfl ?_
  refine g_iconst dX12_days_1 ?_
  refine g_putI (J := 0) dX12_days_2 fl_X12_1 sh_97 (al_97 hn) rfl rfl ?_
  refine g_iload_n dX12_days_5 rfl ?_
  refine g_iconst dX12_days_6 ?_
  refine g_bipush dX12_days_7 rfl ?_
  refine g_callSI (n := 3) (As := [aI x1, aI 1, aI 99]) (st := []) dX12_days_9 ml_X12_262 rfl rfl (Nat.le_of_ble_eq_true rfl) rfl (RtI.mono w (fun r1 h1 w => ?_))
  obtain ⟨o1, w⟩ := w
  refine g_if_eq (tgt := 31) dX12_days_12 rfl o1 ?_
  refine ite_imp (fun w => ?_) (fun w => ?_) w
  · refine g_iconst dX12_days_31 ?_
    exact g_retI dX12_days_32 rfl w
  · refine g_iconst dX12_days_15 ?_
    refine g_aload_n dX12_days_16 rfl ?_
    refine g_getR dX12_days_17 fl_X12_33 sh_97 (al_97 hn) (fun _ _ _ => rfl) rf_97_6 ?_
    refine g_bipush dX12_days_20 rfl ?_
    refine g_iald dX12_days_22 sh_99 (al_99 hn) (Nat.le_of_ble_eq_true rfl) (by decide) ?_
    refine g_imul dX12_days_23 ?_
    refine g_iload_n dX12_days_24 rfl ?_
    obtain ⟨o2, w⟩ := w
    obtain ⟨o3, w⟩ := w
    obtain ⟨o4, w⟩ := w
    refine g_idiv dX12_days_25 o2 o3 o4 ?_
    refine g_iconst dX12_days_26 ?_
    refine g_iadd dX12_days_27 ?_
    refine g_goto (tgt := 32) dX12_days_28 rfl ?_
    exact g_retI dX12_days_32 rfl w
theorem e_X12_write {l : Launch} {D : Nat} {ζ : ZP} {h : HI} {Q : HI → Prop} {x1 x2 x3 : Int} (hn : 144 ≤ ζ.2.2.2.2) (w : (0 ≤ (3 * (h 97 33)) ∧ (3 * (h 97 33)) < 192) ∧ (0 ≤ ((3 * (h 97 33)) + 1) ∧ ((3 * (h 97 33)) + 1) < 192) ∧ (0 ≤ ((3 * (h 97 33)) + 2) ∧ ((3 * (h 97 33)) + 2) < 192) ∧ Q (hu (hu (hu (hu h 111 (3 * (h 97 33)) x1) 111 ((3 * (h 97 33)) + 1) x2) 111 ((3 * (h 97 33)) + 2) x3) 97 33 ((h 97 33) + 1))) : RtV l (D + 1) mX12_write (zz ζ) [aP 97, aI x1, aI x2, aI x3] h Q := by
  refine RtV.of 0 pn_X12 [aP 97, aI x1, aI x2, aI x3] rfl rfl ?_
  refine g_aload_n dX12_write_0 rfl ?_
  refine g_getR dX12_write_1 fl_X12_72 sh_97 (al_97 hn) (fun _ _ _ => rfl) rf_97_30 ?_
  refine g_iconst dX12_write_4 ?_
  refine g_aload_n dX12_write_5 rfl ?_
  refine g_getI (J := 33) dX12_write_6 fl_X12_353 sh_97 (al_97 hn) (fun _ _ _ => rfl) rfl ?_
  refine g_imul dX12_write_9 ?_
  refine g_iload_n dX12_write_10 rfl ?_
  obtain ⟨o1, w⟩ := w
  refine g_iast dX12_write_11 sh_111 (al_111 hn) (Nat.le_of_ble_eq_true rfl) o1 ?_
  refine g_aload_n dX12_write_12 rfl ?_
  refine g_getR dX12_write_13 fl_X12_72 sh_97 (al_97 hn) (fun _ _ _ => rfl) rf_97_30 ?_
  refine g_iconst dX12_write_16 ?_
  refine g_aload_n dX12_write_17 rfl ?_
  refine g_getI (J := 33) dX12_write_18 fl_X12_353 sh_97 (al_97 hn) (fun _ _ _ => rfl) rfl ?_
  refine g_imul dX12_write_21 ?_
  refine g_iconst dX12_write_22 ?_
  refine g_iadd dX12_write_23 ?_
  refine g_iload_n dX12_write_24 rfl ?_
  obtain ⟨o2, w⟩ := w
  refine g_iast dX12_write_25 sh_111 (al_111 hn) (Nat.le_of_ble_eq_true rfl) o2 ?_
  refine g_aload_n dX12_write_26 rfl ?_
  refine g_getR dX12_write_27 fl_X12_72 sh_97 (al_97 hn) (fun _ _ _ => rfl) rf_97_30 ?_
  refine g_iconst dX12_write_30 ?_
  refine g_aload_n dX12_write_31 rfl ?_
  refine g_getI (J := 33) dX12_write_32 fl_X12_353 sh_97 (al_97 hn) (fun _ _ _ => rfl) rfl ?_
  refine g_imul dX12_write_35 ?_
  refine g_iconst dX12_write_36 ?_
  refine g_iadd dX12_write_37 ?_
  refine g_iload_n dX12_write_38 rfl ?_
  obtain ⟨o3, w⟩ := w
  refine g_iast dX12_write_39 sh_111 (al_111 hn) (Nat.le_of_ble_eq_true rfl) o3 ?_
  refine g_aload_n dX12_write_40 rfl ?_
  refine g_dup dX12_write_41 rfl ?_
  refine g_getI (J := 33) dX12_write_42 fl_X12_353 sh_97 (al_97 hn) (fun _ _ _ => rfl) rfl ?_
  refine g_iconst dX12_write_45 ?_
  refine g_iadd dX12_write_46 ?_
  refine g_putI (J := 33) dX12_write_47 fl_X12_353 sh_97 (al_97 hn) rfl rfl ?_
  exact g_retV dX12_write_50 rfl w
theorem b_X12_writeDown_0 {l : Launch} {D : Nat} {ζ : ZP} {h : HI} {Q : HI → Prop} {x1 : Int} (hn : 144 ≤ ζ.2.2.2.2) (w : (rg (h 97 34)) ∧ (if (h 97 34) ≤ 0 then (Q h) else ((0 ≤ ((h 97 34) - 1) ∧ ((h 97 34) - 1) < 30) ∧ (rg (h 112 ((h 97 34) - 1))) ∧ (if (h 112 ((h 97 34) - 1)) = 10 then (Q h) else (RtI l D mX12_binds (zz ζ) [aI (h 112 ((h 97 34) - 1))] h (fun r1 h1 => (rg r1) ∧ (rg x1) ∧ (if r1 < x1 then (Q h1) else ((0 ≤ ((h1 97 34) - 1) ∧ ((h1 97 34) - 1) < 30) ∧ RtV l D mX12_write (zz ζ) [aP 97, aI (h1 112 ((h1 97 34) - 1)), aI 0, aI 0] (hu h1 97 34 ((h1 97 34) - 1)) (fun h2 => G l (D + 1) 0 0 mX12_writeDown (zz ζ) 0 [aP 97, aI x1] [] h2 (qV (zz ζ) Q)))))))))) : G l (D + 1) 0 0 mX12_writeDown (zz ζ) 0 [aP 97, aI x1] [] h (qV (zz ζ) Q) := by
  refine g_aload_n dX12_writeDown_0 rfl ?_
  refine g_getI (J := 34) dX12_writeDown_1 fl_X12_356 sh_97 (al_97 hn) (fun _ _ _ => rfl) rfl ?_
  obtain ⟨o1, w⟩ := w
  refine g_if_le (tgt := 69) dX12_writeDown_4 rfl o1 ?_
  refine ite_imp (fun w => ?_) (fun w => ?_) w
  · exact g_retV dX12_writeDown_69 rfl w
  · refine g_aload_n dX12_writeDown_7 rfl ?_
    refine g_getR dX12_writeDown_8 fl_X12_75 sh_97 (al_97 hn) (fun _ _ _ => rfl) rf_97_31 ?_
    refine g_aload_n dX12_writeDown_11 rfl ?_
    refine g_getI (J := 34) dX12_writeDown_12 fl_X12_356 sh_97 (al_97 hn) (fun _ _ _ => rfl) rfl ?_
    refine g_iconst dX12_writeDown_15 ?_
    refine g_isub dX12_writeDown_16 ?_
    obtain ⟨o2, w⟩ := w
    refine g_iald dX12_writeDown_17 sh_112 (al_112 hn) (Nat.le_of_ble_eq_true rfl) o2 ?_
    refine g_bipush dX12_writeDown_18 rfl ?_
    obtain ⟨o3, w⟩ := w
    refine g_cmp_eq (tgt := 69) dX12_writeDown_20 rfl o3 (by decide) ?_
    refine ite_imp (fun w => ?_) (fun w => ?_) w
    · exact g_retV dX12_writeDown_69 rfl w
    · refine g_aload_n dX12_writeDown_23 rfl ?_
      refine g_getR dX12_writeDown_24 fl_X12_75 sh_97 (al_97 hn) (fun _ _ _ => rfl) rf_97_31 ?_
      refine g_aload_n dX12_writeDown_27 rfl ?_
      refine g_getI (J := 34) dX12_writeDown_28 fl_X12_356 sh_97 (al_97 hn) (fun _ _ _ => rfl) rfl ?_
      refine g_iconst dX12_writeDown_31 ?_
      refine g_isub dX12_writeDown_32 ?_
      refine g_iald dX12_writeDown_33 sh_112 (al_112 hn) (Nat.le_of_ble_eq_true rfl) o2 ?_
      refine g_callSI (n := 1) (As := [aI (h 112 ((h 97 34) - 1))]) (st := []) dX12_writeDown_34 ml_X12_359 rfl rfl (Nat.le_of_ble_eq_true rfl) rfl (RtI.mono w (fun r1 h1 w => ?_))
      refine g_iload_n dX12_writeDown_37 rfl ?_
      obtain ⟨o4, w⟩ := w
      obtain ⟨o5, w⟩ := w
      refine g_cmp_lt (tgt := 69) dX12_writeDown_38 rfl o4 o5 ?_
      refine ite_imp (fun w => ?_) (fun w => ?_) w
      · exact g_retV dX12_writeDown_69 rfl w
      · refine g_aload_n dX12_writeDown_41 rfl ?_
        refine g_dup dX12_writeDown_42 rfl ?_
        refine g_getI (J := 34) dX12_writeDown_43 fl_X12_356 sh_97 (al_97 hn) (fun _ _ _ => rfl) rfl ?_
        refine g_iconst dX12_writeDown_46 ?_
        refine g_isub dX12_writeDown_47 ?_
        refine g_putI (J := 34) dX12_writeDown_48 fl_X12_356 sh_97 (al_97 hn) rfl rfl ?_
        refine g_aload_n dX12_writeDown_51 rfl ?_
        refine g_aload_n dX12_writeDown_52 rfl ?_
        refine g_getR dX12_writeDown_53 fl_X12_75 sh_97 (al_97 hn) (fun _ _ _ => rfl) rf_97_31 ?_
        refine g_aload_n dX12_writeDown_56 rfl ?_
        refine g_getI (J := 34) dX12_writeDown_57 fl_X12_356 sh_97 (al_97 hn) (fun _ _ _ => rfl) rfl ?_
        obtain ⟨o6, w⟩ := w
        refine g_iald dX12_writeDown_60 sh_112 (al_112 hn) (Nat.le_of_ble_eq_true rfl) o6 ?_
        refine g_iconst dX12_writeDown_61 ?_
        refine g_iconst dX12_writeDown_62 ?_
        refine g_callVV (n := 3) (As := [aI (h1 112 ((h1 97 34) - 1)), aI 0, aI 0]) (st := []) dX12_writeDown_63 ml_X12_362 sh_97 rfl (al_97 hn) rfl rfl (Nat.le_of_ble_eq_true rfl) (RtV.mono w (fun h2 w => ?_))
        refine g_goto (tgt := 0) dX12_writeDown_66 rfl ?_
        exact g_sub (ls' := [aP 97, aI x1]) ⟨Or.inr rfl, Or.inr rfl, trivial⟩ w
theorem e_X12_writeDown {l : Launch} {D : Nat} {ζ : ZP} {h : HI} {Q : HI → Prop} {x1 : Int} (hn : 144 ≤ ζ.2.2.2.2) (w : G l (D + 1) 0 0 mX12_writeDown (zz ζ) 0 [aP 97, aI x1] [] h (qV (zz ζ) Q)) : RtV l (D + 1) mX12_writeDown (zz ζ) [aP 97, aI x1] h Q := by
  refine RtV.of 0 pn_X12 [aP 97, aI x1] rfl rfl ?_
  exact g_sub (ls' := [aP 97, aI x1]) ⟨Or.inr rfl, Or.inr rfl, trivial⟩ w
theorem e_X12_binds {l : Launch} {D : Nat} {ζ : ZP} {h : HI} {Q : Int → HI → Prop} {x0 : Int} (hn : 144 ≤ ζ.2.2.2.2) (w : (rg x0) ∧ (if ¬ x0 = 7 then (if ¬ x0 = 8 then (Q 1 h) else (Q 2 h)) else (Q 3 h))) : RtI l (D + 1) mX12_binds (zz ζ) [aI x0] h Q := by
  refine RtI.of 0 pn_X12 [aI x0] rfl rfl ?_
  refine g_iload_n dX12_binds_0 rfl ?_
  refine g_bipush dX12_binds_1 rfl ?_
  obtain ⟨o1, w⟩ := w
  refine g_cmp_ne (tgt := 10) dX12_binds_3 rfl o1 (by decide) ?_
  refine ite_imp (fun w => ?_) (fun w => ?_) w
  · refine g_iload_n dX12_binds_10 rfl ?_
    refine g_bipush dX12_binds_11 rfl ?_
    refine g_cmp_ne (tgt := 20) dX12_binds_13 rfl o1 (by decide) ?_
    refine ite_imp (fun w => ?_) (fun w => ?_) w
    · refine g_iconst dX12_binds_20 ?_
      exact g_retI dX12_binds_21 rfl w
    · refine g_iconst dX12_binds_16 ?_
      refine g_goto (tgt := 21) dX12_binds_17 rfl ?_
      exact g_retI dX12_binds_21 rfl w
  · refine g_iconst dX12_binds_6 ?_
    refine g_goto (tgt := 21) dX12_binds_7 rfl ?_
    exact g_retI dX12_binds_21 rfl w
theorem b_X12_open_4 {l : Launch} {D : Nat} {ζ : ZP} {h : HI} {Q : Int → HI → Prop} {x1 x2 : Int} (hn : 144 ≤ ζ.2.2.2.2) (w : (rg x2) ∧ (rg (h 97 34)) ∧ (if (h 97 34) ≤ x2 then (Q x1 h) else ((0 ≤ x2 ∧ x2 < 30) ∧ (rg (h 112 x2)) ∧ (if (h 112 x2) = 7 then (G l (D + 1) 0 0 mX12_open (zz ζ) 4 [aP 97, aI (x1 + 1), aI (x2 + 1)] [] h (qI (zz ζ) Q)) else (if ¬ (h 112 x2) = 10 then (G l (D + 1) 0 0 mX12_open (zz ζ) 4 [aP 97, aI (x1 + 0), aI (x2 + 1)] [] h (qI (zz ζ) Q)) else (G l (D + 1) 0 0 mX12_open (zz ζ) 4 [aP 97, aI (x1 + 1), aI (x2 + 1)] [] h (qI (zz ζ) Q))))))) : G l (D + 1) 0 0 mX12_open (zz ζ) 4 [aP 97, aI x1, aI x2] [] h (qI (zz ζ) Q) := by
  refine g_iload_n dX12_open_4 rfl ?_
  refine g_aload_n dX12_open_5 rfl ?_
  refine g_getI (J := 34) dX12_open_6 fl_X12_356 sh_97 (al_97 hn) (fun _ _ _ => rfl) rfl ?_
  obtain ⟨o1, w⟩ := w
  obtain ⟨o2, w⟩ := w
  refine g_cmp_ge (tgt := 48) dX12_open_9 rfl o1 o2 ?_
  refine ite_imp (fun w => ?_) (fun w => ?_) w
  · refine g_iload_n dX12_open_48 rfl ?_
    exact g_retI dX12_open_49 rfl w
  · refine g_iload_n dX12_open_12 rfl ?_
    refine g_aload_n dX12_open_13 rfl ?_
    refine g_getR dX12_open_14 fl_X12_75 sh_97 (al_97 hn) (fun _ _ _ => rfl) rf_97_31 ?_
    refine g_iload_n dX12_open_17 rfl ?_
    obtain ⟨o3, w⟩ := w
    refine g_iald dX12_open_18 sh_112 (al_112 hn) (Nat.le_of_ble_eq_true rfl) o3 ?_
    refine g_bipush dX12_open_19 rfl ?_
    obtain ⟨o4, w⟩ := w
    refine g_cmp_eq (tgt := 35) dX12_open_21 rfl o4 (by decide) ?_
    refine ite_imp (fun w => ?_) (fun w => ?_) w
    · refine g_iconst dX12_open_35 ?_
      refine g_goto (tgt := 40) dX12_open_36 rfl ?_
      refine g_iadd dX12_open_40 ?_
      refine g_istore_n (ls' := [aP 97, aI (x1 + 1), aI x2]) dX12_open_41 (Nat.le_of_ble_eq_true rfl) rfl rfl ?_
      refine g_iinc (ls' := [aP 97, aI (x1 + 1), aI (x2 + 1)]) dX12_open_42 rfl (Nat.le_of_ble_eq_true rfl) rfl rfl ?_
      refine g_goto (tgt := 4) dX12_open_45 rfl ?_
      exact g_sub (ls' := [aP 97, aI (x1 + 1), aI (x2 + 1)]) ⟨Or.inr rfl, Or.inr rfl, Or.inr rfl, trivial⟩ w
    · refine g_aload_n dX12_open_24 rfl ?_
      refine g_getR dX12_open_25 fl_X12_75 sh_97 (al_97 hn) (fun _ _ _ => rfl) rf_97_31 ?_
      refine g_iload_n dX12_open_28 rfl ?_
      refine g_iald dX12_open_29 sh_112 (al_112 hn) (Nat.le_of_ble_eq_true rfl) o3 ?_
      refine g_bipush dX12_open_30 rfl ?_
      refine g_cmp_ne (tgt := 39) dX12_open_32 rfl o4 (by decide) ?_
      refine ite_imp (fun w => ?_) (fun w => ?_) w
      · refine g_iconst dX12_open_39 ?_
        refine g_iadd dX12_open_40 ?_
        refine g_istore_n (ls' := [aP 97, aI (x1 + 0), aI x2]) dX12_open_41 (Nat.le_of_ble_eq_true rfl) rfl rfl ?_
        refine g_iinc (ls' := [aP 97, aI (x1 + 0), aI (x2 + 1)]) dX12_open_42 rfl (Nat.le_of_ble_eq_true rfl) rfl rfl ?_
        refine g_goto (tgt := 4) dX12_open_45 rfl ?_
        exact g_sub (ls' := [aP 97, aI (x1 + 0), aI (x2 + 1)]) ⟨Or.inr rfl, Or.inr rfl, Or.inr rfl, trivial⟩ w
      · refine g_iconst dX12_open_35 ?_
        refine g_goto (tgt := 40) dX12_open_36 rfl ?_
        refine g_iadd dX12_open_40 ?_
        refine g_istore_n (ls' := [aP 97, aI (x1 + 1), aI x2]) dX12_open_41 (Nat.le_of_ble_eq_true rfl) rfl rfl ?_
        refine g_iinc (ls' := [aP 97, aI (x1 + 1), aI (x2 + 1)]) dX12_open_42 rfl (Nat.le_of_ble_eq_true rfl) rfl rfl ?_
        refine g_goto (tgt := 4) dX12_open_45 rfl ?_
        exact g_sub (ls' := [aP 97, aI (x1 + 1), aI (x2 + 1)]) ⟨Or.inr rfl, Or.inr rfl, Or.inr rfl, trivial⟩ w
theorem e_X12_open {l : Launch} {D : Nat} {ζ : ZP} {h : HI} {Q : Int → HI → Prop} (hn : 144 ≤ ζ.2.2.2.2) (w : G l (D + 1) 0 0 mX12_open (zz ζ) 4 [aP 97, aI 0, aI 0] [] h (qI (zz ζ) Q)) : RtI l (D + 1) mX12_open (zz ζ) [aP 97] h Q := by
  refine RtI.of 2 pn_X12 [aP 97, aU, aU] rfl rfl ?_
  refine g_iconst dX12_open_0 ?_
  refine g_istore_n (ls' := [aP 97, aI 0, aU]) dX12_open_1 (Nat.le_of_ble_eq_true rfl) rfl rfl ?_
  refine g_iconst dX12_open_2 ?_
  refine g_istore_n (ls' := [aP 97, aI 0, aI 0]) dX12_open_3 (Nat.le_of_ble_eq_true rfl) rfl rfl ?_
  exact g_sub (ls' := [aP 97, aI 0, aI 0]) ⟨Or.inr rfl, Or.inr rfl, Or.inr rfl, trivial⟩ w
theorem b_X12_isOpen_2 {l : Launch} {D : Nat} {ζ : ZP} {h : HI} {Q : Int → HI → Prop} {x1 : Int} (hn : 144 ≤ ζ.2.2.2.2) (w : (rg x1) ∧ (rg (h 97 34)) ∧ (if (h 97 34) ≤ x1 then (Q 0 h) else ((0 ≤ x1 ∧ x1 < 30) ∧ (rg (h 112 x1)) ∧ (if ¬ (h 112 x1) = 10 then (G l (D + 1) 0 0 mX12_isOpen (zz ζ) 2 [aP 97, aI (x1 + 1)] [] h (qI (zz ζ) Q)) else (Q 1 h))))) : G l (D + 1) 0 0 mX12_isOpen (zz ζ) 2 [aP 97, aI x1] [] h (qI (zz ζ) Q) := by
  refine g_iload_n dX12_isOpen_2 rfl ?_
  refine g_aload_n dX12_isOpen_3 rfl ?_
  refine g_getI (J := 34) dX12_isOpen_4 fl_X12_356 sh_97 (al_97 hn) (fun _ _ _ => rfl) rfl ?_
  obtain ⟨o1, w⟩ := w
  obtain ⟨o2, w⟩ := w
  refine g_cmp_ge (tgt := 29) dX12_isOpen_7 rfl o1 o2 ?_
  refine ite_imp (fun w => ?_) (fun w => ?_) w
  · refine g_iconst dX12_isOpen_29 ?_
    exact g_retZ dX12_isOpen_30 rfl (Or.inl rfl) w
  · refine g_aload_n dX12_isOpen_10 rfl ?_
    refine g_getR dX12_isOpen_11 fl_X12_75 sh_97 (al_97 hn) (fun _ _ _ => rfl) rf_97_31 ?_
    refine g_iload_n dX12_isOpen_14 rfl ?_
    obtain ⟨o3, w⟩ := w
    refine g_iald dX12_isOpen_15 sh_112 (al_112 hn) (Nat.le_of_ble_eq_true rfl) o3 ?_
    refine g_bipush dX12_isOpen_16 rfl ?_
    obtain ⟨o4, w⟩ := w
    refine g_cmp_ne (tgt := 23) dX12_isOpen_18 rfl o4 (by decide) ?_
    refine ite_imp (fun w => ?_) (fun w => ?_) w
    · refine g_iinc (ls' := [aP 97, aI (x1 + 1)]) dX12_isOpen_23 rfl (Nat.le_of_ble_eq_true rfl) rfl rfl ?_
      refine g_goto (tgt := 2) dX12_isOpen_26 rfl ?_
      exact g_sub (ls' := [aP 97, aI (x1 + 1)]) ⟨Or.inr rfl, Or.inr rfl, trivial⟩ w
    · refine g_iconst dX12_isOpen_21 ?_
      exact g_retZ dX12_isOpen_22 rfl (Or.inr rfl) w
theorem e_X12_isOpen {l : Launch} {D : Nat} {ζ : ZP} {h : HI} {Q : Int → HI → Prop} (hn : 144 ≤ ζ.2.2.2.2) (w : G l (D + 1) 0 0 mX12_isOpen (zz ζ) 2 [aP 97, aI 0] [] h (qI (zz ζ) Q)) : RtI l (D + 1) mX12_isOpen (zz ζ) [aP 97] h Q := by
  refine RtI.of 1 pn_X12 [aP 97, aU] rfl rfl ?_
  refine g_iconst dX12_isOpen_0 ?_
  refine g_istore_n (ls' := [aP 97, aI 0]) dX12_isOpen_1 (Nat.le_of_ble_eq_true rfl) rfl rfl ?_
  exact g_sub (ls' := [aP 97, aI 0]) ⟨Or.inr rfl, Or.inr rfl, trivial⟩ w
theorem b_X12_cond_0 {l : Launch} {D : Nat} {ζ : ZP} {h : HI} {Q : Int → HI → Prop} (hn : 144 ≤ ζ.2.2.2.2) (w : RtI l D mX12_one (zz ζ) [aP 97] h (fun r1 h1 => (rg r1) ∧ (if ¬ r1 = 0 then (G l (D + 1) 0 0 mX12_cond (zz ζ) 9 [aP 97, aU] [] h1 (qI (zz ζ) Q)) else (Q 0 h1)))) : G l (D + 1) 0 0 mX12_cond (zz ζ) 0 [aP 97, aU] [] h (qI (zz ζ) Q) := by
  refine g_aload_n dX12_cond_0 rfl ?_
  refine g_callVI (n := 0) (As := []) (st := []) dX12_cond_1 ml_X12_366 sh_97 rfl (al_97 hn) rfl rfl (Nat.le_of_ble_eq_true rfl) (RtI.mono w (fun r1 h1 w => ?_))
  obtain ⟨o1, w⟩ := w
  refine g_if_ne (tgt := 9) dX12_cond_4 rfl o1 ?_
  refine ite_imp (fun w => ?_) (fun w => ?_) w
  · exact g_sub (ls' := [aP 97, aU]) ⟨Or.inr rfl, Or.inl rfl, trivial⟩ w
  · refine g_iconst dX12_cond_7 ?_
    exact g_retZ dX12_cond_8 rfl (Or.inl rfl) w
theorem b_X12_cond_9 {l : Launch} {D : Nat} {ζ : ZP} {h : HI} {Q : Int → HI → Prop} (hn : 144 ≤ ζ.2.2.2.2) (w : RtI l D mX12_isSign (zz ζ) [aP 97, aI 41] h (fun r1 h1 => (rg r1) ∧ (if r1 = 0 then (G l (D + 1) 0 0 mX12_cond (zz ζ) 52 [aP 97, aU] [] h1 (qI (zz ζ) Q)) else (RtI l D mX12_isOpen (zz ζ) [aP 97] h1 (fun r2 h2 => (rg r2) ∧ (if r2 = 0 then (G l (D + 1) 0 0 mX12_cond (zz ζ) 52 [aP 97, aU] [] h2 (qI (zz ζ) Q)) else (RtV l D mX12_writeDown (zz ζ) [aP 97, aI 1] h2 (fun h3 => RtV l D mX12_writeDown (zz ζ) [aP 97, aI 3] (hu h3 97 34 ((h3 97 34) - 1)) (fun h4 => RtV l D mX12_next (zz ζ) [aP 97] h4 (fun h5 => G l (D + 1) 0 0 mX12_cond (zz ζ) 9 [aP 97, aU] [] h5 (qI (zz ζ) Q))))))))))) : G l (D + 1) 0 0 mX12_cond (zz ζ) 9 [aP 97, aU] [] h (qI (zz ζ) Q) := by
  refine g_aload_n dX12_cond_9 rfl ?_
  refine g_bipush dX12_cond_10 rfl ?_
  refine g_callVI (n := 1) (As := [aI 41]) (st := []) dX12_cond_12 ml_X12_253 sh_97 rfl (al_97 hn) rfl rfl (Nat.le_of_ble_eq_true rfl) (RtI.mono w (fun r1 h1 w => ?_))
  obtain ⟨o1, w⟩ := w
  refine g_if_eq (tgt := 52) dX12_cond_15 rfl o1 ?_
  refine ite_imp (fun w => ?_) (fun w => ?_) w
  · exact g_sub (ls' := [aP 97, aU]) ⟨Or.inr rfl, Or.inl rfl, trivial⟩ w
  · refine g_aload_n dX12_cond_18 rfl ?_
    refine g_callVI (n := 0) (As := []) (st := []) dX12_cond_19 ml_X12_369 sh_97 rfl (al_97 hn) rfl rfl (Nat.le_of_ble_eq_true rfl) (RtI.mono w (fun r2 h2 w => ?_))
    obtain ⟨o2, w⟩ := w
    refine g_if_eq (tgt := 52) dX12_cond_22 rfl o2 ?_
    refine ite_imp (fun w => ?_) (fun w => ?_) w
    · exact g_sub (ls' := [aP 97, aU]) ⟨Or.inr rfl, Or.inl rfl, trivial⟩ w
    · refine g_aload_n dX12_cond_25 rfl ?_
      refine g_iconst dX12_cond_26 ?_
      refine g_callVV (n := 1) (As := [aI 1]) (st := []) dX12_cond_27 ml_X12_372 sh_97 rfl (al_97 hn) rfl rfl (Nat.le_of_ble_eq_true rfl) (RtV.mono w (fun h3 w => ?_))
      refine g_aload_n dX12_cond_30 rfl ?_
      refine g_dup dX12_cond_31 rfl ?_
      refine g_getI (J := 34) dX12_cond_32 fl_X12_356 sh_97 (al_97 hn) (fun _ _ _ => rfl) rfl ?_
      refine g_iconst dX12_cond_35 ?_
      refine g_isub dX12_cond_36 ?_
      refine g_putI (J := 34) dX12_cond_37 fl_X12_356 sh_97 (al_97 hn) rfl rfl ?_
      refine g_aload_n dX12_cond_40 rfl ?_
      refine g_iconst dX12_cond_41 ?_
      refine g_callVV (n := 1) (As := [aI 3]) (st := []) dX12_cond_42 ml_X12_372 sh_97 rfl (al_97 hn) rfl rfl (Nat.le_of_ble_eq_true rfl) (RtV.mono w (fun h4 w => ?_))
      refine g_aload_n dX12_cond_45 rfl ?_
      refine g_callVV (n := 0) (As := []) (st := []) dX12_cond_46 ml_X12_259 sh_97 rfl (al_97 hn) rfl rfl (Nat.le_of_ble_eq_true rfl) (RtV.mono w (fun h5 w => ?_))
      refine g_goto (tgt := 9) dX12_cond_49 rfl ?_
      exact g_sub (ls' := [aP 97, aU]) ⟨Or.inr rfl, Or.inl rfl, trivial⟩ w
theorem b_X12_cond_52 {l : Launch} {D : Nat} {ζ : ZP} {h : HI} {Q : Int → HI → Prop} (hn : 144 ≤ ζ.2.2.2.2) (w : RtI l D mX12_isWord (zz ζ) [aP 97, aL 6385252] h (fun r1 h1 => (rg r1) ∧ (if ¬ r1 = 0 then (if r1 = 0 then (G l (D + 1) 0 0 mX12_cond (zz ζ) 123 [aP 97, aI r1] [aI 1, aP 97] h1 (qI (zz ζ) Q)) else (G l (D + 1) 0 0 mX12_cond (zz ζ) 123 [aP 97, aI r1] [aI 2, aP 97] h1 (qI (zz ζ) Q))) else (RtI l D mX12_isWord (zz ζ) [aP 97, aL 28530] h1 (fun r2 h2 => (rg r2) ∧ (if ¬ r2 = 0 then (if r1 = 0 then (G l (D + 1) 0 0 mX12_cond (zz ζ) 123 [aP 97, aI r1] [aI 1, aP 97] h2 (qI (zz ζ) Q)) else (G l (D + 1) 0 0 mX12_cond (zz ζ) 123 [aP 97, aI r1] [aI 2, aP 97] h2 (qI (zz ζ) Q))) else (RtI l D mX12_isOpen (zz ζ) [aP 97] h2 (fun r3 h3 => (rg r3) ∧ (if r3 = 0 then (RtV l D mX12_writeDown (zz ζ) [aP 97, aI 1] h3 (fun h4 => (rg (h4 97 10)) ∧ (if (h4 97 10) = 0 then (Q 1 h4) else (RtI l D mX12_bad (zz ζ) [aP 97, aI 1] h4 (fun r5 h5 => (rg r5) ∧ (if r5 = 0 then (Q 0 h5) else (Q 1 h5))))))) else (RtI l D mX12_bad (zz ζ) [aP 97, aI 1] h3 (fun r6 h6 => (r6 = 0 ∨ r6 = 1) ∧ Q r6 h6))))))))))) : G l (D + 1) 0 0 mX12_cond (zz ζ) 52 [aP 97, aU] [] h (qI (zz ζ) Q) := by
  refine g_aload_n dX12_cond_52 rfl ?_
  refine g_ldc2 (n := 6385252) dX12_cond_53 kl_X12_193 rfl ?_
  refine g_callVI (n := 1) (As := [aL 6385252]) (st := []) dX12_cond_56 ml_X12_283 sh_97 rfl (al_97 hn) rfl rfl (Nat.le_of_ble_eq_true rfl) (RtI.mono w (fun r1 h1 w => ?_))
  refine g_istore_n (ls' := [aP 97, aI r1]) dX12_cond_59 (Nat.le_of_ble_eq_true rfl) rfl rfl ?_
  refine g_iload_n dX12_cond_60 rfl ?_
  obtain ⟨o1, w⟩ := w
  refine g_if_ne (tgt := 113) dX12_cond_61 rfl o1 ?_
  refine ite_imp (fun w => ?_) (fun w => ?_) w
  · refine g_aload_n dX12_cond_113 rfl ?_
    refine g_iload_n dX12_cond_114 rfl ?_
    refine g_if_eq (tgt := 122) dX12_cond_115 rfl o1 ?_
    refine ite_imp (fun w => ?_) (fun w => ?_) w
    · refine g_iconst dX12_cond_122 ?_
      exact g_sub (ls' := [aP 97, aI r1]) ⟨Or.inr rfl, Or.inr rfl, trivial⟩ w
    · refine g_iconst dX12_cond_118 ?_
      refine g_goto (tgt := 123) dX12_cond_119 rfl ?_
      exact g_sub (ls' := [aP 97, aI r1]) ⟨Or.inr rfl, Or.inr rfl, trivial⟩ w
  · refine g_aload_n dX12_cond_64 rfl ?_
    refine g_ldc2 (n := 28530) dX12_cond_65 kl_X12_191 rfl ?_
    refine g_callVI (n := 1) (As := [aL 28530]) (st := []) dX12_cond_68 ml_X12_283 sh_97 rfl (al_97 hn) rfl rfl (Nat.le_of_ble_eq_true rfl) (RtI.mono w (fun r2 h2 w => ?_))
    obtain ⟨o2, w⟩ := w
    refine g_if_ne (tgt := 113) dX12_cond_71 rfl o2 ?_
    refine ite_imp (fun w => ?_) (fun w => ?_) w
    · refine g_aload_n dX12_cond_113 rfl ?_
      refine g_iload_n dX12_cond_114 rfl ?_
      refine g_if_eq (tgt := 122) dX12_cond_115 rfl o1 ?_
      refine ite_imp (fun w => ?_) (fun w => ?_) w
      · refine g_iconst dX12_cond_122 ?_
        exact g_sub (ls' := [aP 97, aI r1]) ⟨Or.inr rfl, Or.inr rfl, trivial⟩ w
      · refine g_iconst dX12_cond_118 ?_
        refine g_goto (tgt := 123) dX12_cond_119 rfl ?_
        exact g_sub (ls' := [aP 97, aI r1]) ⟨Or.inr rfl, Or.inr rfl, trivial⟩ w
    · refine g_aload_n dX12_cond_74 rfl ?_
      refine g_callVI (n := 0) (As := []) (st := []) dX12_cond_75 ml_X12_369 sh_97 rfl (al_97 hn) rfl rfl (Nat.le_of_ble_eq_true rfl) (RtI.mono w (fun r3 h3 w => ?_))
      obtain ⟨o3, w⟩ := w
      refine g_if_eq (tgt := 87) dX12_cond_78 rfl o3 ?_
      refine ite_imp (fun w => ?_) (fun w => ?_) w
      · refine g_aload_n dX12_cond_87 rfl ?_
        refine g_iconst dX12_cond_88 ?_
        refine g_callVV (n := 1) (As := [aI 1]) (st := []) dX12_cond_89 ml_X12_372 sh_97 rfl (al_97 hn) rfl rfl (Nat.le_of_ble_eq_true rfl) (RtV.mono w (fun h4 w => ?_))
        refine g_aload_n dX12_cond_92 rfl ?_
        refine g_getI (J := 10) dX12_cond_93 fl_X12_230 sh_97 (al_97 hn) (fun _ _ _ => rfl) rfl ?_
        obtain ⟨o4, w⟩ := w
        refine g_if_eq (tgt := 107) dX12_cond_96 rfl o4 ?_
        refine ite_imp (fun w => ?_) (fun w => ?_) w
        · refine g_iconst dX12_cond_107 ?_
          refine g_goto (tgt := 112) dX12_cond_108 rfl ?_
          exact g_retZ dX12_cond_112 rfl (Or.inr rfl) w
        · refine g_aload_n dX12_cond_99 rfl ?_
          refine g_iconst dX12_cond_100 ?_
          refine g_callVI (n := 1) (As := [aI 1]) (st := []) dX12_cond_101 ml_X12_256 sh_97 rfl (al_97 hn) rfl rfl (Nat.le_of_ble_eq_true rfl) (RtI.mono w (fun r5 h5 w => ?_))
          obtain ⟨o5, w⟩ := w
          refine g_if_eq (tgt := 111) dX12_cond_104 rfl o5 ?_
          refine ite_imp (fun w => ?_) (fun w => ?_) w
          · refine g_iconst dX12_cond_111 ?_
            exact g_retZ dX12_cond_112 rfl (Or.inl rfl) w
          · refine g_iconst dX12_cond_107 ?_
            refine g_goto (tgt := 112) dX12_cond_108 rfl ?_
            exact g_retZ dX12_cond_112 rfl (Or.inr rfl) w
      · refine g_aload_n dX12_cond_81 rfl ?_
        refine g_iconst dX12_cond_82 ?_
        refine g_callVI (n := 1) (As := [aI 1]) (st := []) dX12_cond_83 ml_X12_256 sh_97 rfl (al_97 hn) rfl rfl (Nat.le_of_ble_eq_true rfl) (RtI.mono w (fun r6 h6 w => ?_))
        obtain ⟨o6, w⟩ := w
        exact g_retZ dX12_cond_86 rfl o6 w
theorem b_X12_cond_123 {l : Launch} {D : Nat} {ζ : ZP} {h : HI} {Q : Int → HI → Prop} {s0 x1 : Int} (hn : 144 ≤ ζ.2.2.2.2) (w : RtV l D mX12_writeDown (zz ζ) [aP 97, aI s0] h (fun h1 => (rg x1) ∧ (if x1 = 0 then ((0 ≤ (h1 97 34) ∧ (h1 97 34) < 30) ∧ RtV l D mX12_next (zz ζ) [aP 97] (hu (hu h1 112 (h1 97 34) 9) 97 34 ((h1 97 34) + 1)) (fun h2 => G l (D + 1) 0 0 mX12_cond (zz ζ) 0 [aP 97, aU] [] h2 (qI (zz ζ) Q))) else ((0 ≤ (h1 97 34) ∧ (h1 97 34) < 30) ∧ RtV l D mX12_next (zz ζ) [aP 97] (hu (hu h1 112 (h1 97 34) 8) 97 34 ((h1 97 34) + 1)) (fun h3 => G l (D + 1) 0 0 mX12_cond (zz ζ) 0 [aP 97, aU] [] h3 (qI (zz ζ) Q)))))) : G l (D + 1) 0 0 mX12_cond (zz ζ) 123 [aP 97, aI x1] [aI s0, aP 97] h (qI (zz ζ) Q) := by
  refine g_callVV (n := 1) (As := [aI s0]) (st := []) dX12_cond_123 ml_X12_372 sh_97 rfl (al_97 hn) rfl rfl (Nat.le_of_ble_eq_true rfl) (RtV.mono w (fun h1 w => ?_))
  refine g_aload_n dX12_cond_126 rfl ?_
  refine g_getR dX12_cond_127 fl_X12_75 sh_97 (al_97 hn) (fun _ _ _ => rfl) rf_97_31 ?_
  refine g_aload_n dX12_cond_130 rfl ?_
  refine g_getI (J := 34) dX12_cond_131 fl_X12_356 sh_97 (al_97 hn) (fun _ _ _ => rfl) rfl ?_
  refine g_iload_n dX12_cond_134 rfl ?_
  obtain ⟨o1, w⟩ := w
  refine g_if_eq (tgt := 143) dX12_cond_135 rfl o1 ?_
  refine ite_imp (fun w => ?_) (fun w => ?_) w
  · refine g_bipush dX12_cond_143 rfl ?_
    obtain ⟨o2, w⟩ := w
    refine g_iast dX12_cond_145 sh_112 (al_112 hn) (Nat.le_of_ble_eq_true rfl) o2 ?_
    refine g_aload_n dX12_cond_146 rfl ?_
    refine g_dup dX12_cond_147 rfl ?_
    refine g_getI (J := 34) dX12_cond_148 fl_X12_356 sh_97 (al_97 hn) (fun _ _ _ => rfl) rfl ?_
    refine g_iconst dX12_cond_151 ?_
    refine g_iadd dX12_cond_152 ?_
    refine g_putI (J := 34) dX12_cond_153 fl_X12_356 sh_97 (al_97 hn) rfl rfl ?_
    refine g_aload_n dX12_cond_156 rfl ?_
    refine g_callVV (n := 0) (As := []) (st := []) dX12_cond_157 ml_X12_259 sh_97 rfl (al_97 hn) rfl rfl (Nat.le_of_ble_eq_true rfl) (RtV.mono w (fun h2 w => ?_))
    refine g_goto (tgt := 0) dX12_cond_160 rfl ?_
    exact g_sub (ls' := [aP 97, aU]) ⟨Or.inr rfl, Or.inl rfl, trivial⟩ w
  · refine g_bipush dX12_cond_138 rfl ?_
    refine g_goto (tgt := 145) dX12_cond_140 rfl ?_
    obtain ⟨o3, w⟩ := w
    refine g_iast dX12_cond_145 sh_112 (al_112 hn) (Nat.le_of_ble_eq_true rfl) o3 ?_
    refine g_aload_n dX12_cond_146 rfl ?_
    refine g_dup dX12_cond_147 rfl ?_
    refine g_getI (J := 34) dX12_cond_148 fl_X12_356 sh_97 (al_97 hn) (fun _ _ _ => rfl) rfl ?_
    refine g_iconst dX12_cond_151 ?_
    refine g_iadd dX12_cond_152 ?_
    refine g_putI (J := 34) dX12_cond_153 fl_X12_356 sh_97 (al_97 hn) rfl rfl ?_
    refine g_aload_n dX12_cond_156 rfl ?_
    refine g_callVV (n := 0) (As := []) (st := []) dX12_cond_157 ml_X12_259 sh_97 rfl (al_97 hn) rfl rfl (Nat.le_of_ble_eq_true rfl) (RtV.mono w (fun h3 w => ?_))
    refine g_goto (tgt := 0) dX12_cond_160 rfl ?_
    exact g_sub (ls' := [aP 97, aU]) ⟨Or.inr rfl, Or.inl rfl, trivial⟩ w
theorem e_X12_cond {l : Launch} {D : Nat} {ζ : ZP} {h : HI} {Q : Int → HI → Prop} (hn : 144 ≤ ζ.2.2.2.2) (w : G l (D + 1) 0 0 mX12_cond (zz ζ) 0 [aP 97, aU] [] h (qI (zz ζ) Q)) : RtI l (D + 1) mX12_cond (zz ζ) [aP 97] h Q := by
  refine RtI.of 1 pn_X12 [aP 97, aU] rfl rfl ?_
  exact g_sub (ls' := [aP 97, aU]) ⟨Or.inr rfl, Or.inl rfl, trivial⟩ w
theorem e_X12_atom {l : Launch} {D : Nat} {ζ : ZP} {h : HI} {Q : Int → HI → Prop} (hn : 144 ≤ ζ.2.2.2.2) (w : RtI l D mX12_isWord (zz ζ) [aP 97, aL 1818846579] h (fun r1 h1 => (rg r1) ∧ (if r1 = 0 then (RtI l D mX12_isWord (zz ζ) [aP 97, aL 1970496868] h1 (fun r2 h2 => (rg r2) ∧ (if r2 = 0 then (RtI l D mX12_isWord (zz ζ) [aP 97, aL 26990] h2 (fun r3 h3 => (rg r3) ∧ (if r3 = 0 then (RtI l D mX12_isWord (zz ζ) [aP 97, aL 1752132708] h3 (fun r4 h4 => (rg r4) ∧ (if r4 = 0 then (RtI l D mX12_isWord (zz ζ) [aP 97, aL 1885434739] h4 (fun r5 h5 => (rg r5) ∧ (if r5 = 0 then (RtI l D mX12_isWord (zz ζ) [aP 97, aL 126926792778084] h5 (fun r6 h6 => (rg r6) ∧ (if r6 = 0 then (RtI l D mX12_isWord (zz ζ) [aP 97, aL 1667591276] h6 (fun r7 h7 => (rg r7) ∧ (if r7 = 0 then (Q (-1) h7) else (Q 6 h7)))) else (Q 5 h6)))) else (Q 4 h5)))) else (Q 3 h4)))) else (Q 2 h3)))) else (Q 1 h2)))) else (Q 0 h1)))) : RtI l (D + 1) mX12_atom (zz ζ) [aP 97] h Q := by
  refine RtI.of 0 pn_X12 [aP 97] rfl rfl ?_
  refine g_aload_n dX12_atom_0 rfl ?_
  refine g_ldc2 (n := 1818846579) dX12_atom_1 kl_X12_199 rfl ?_
  refine g_callVI (n := 1) (As := [aL 1818846579]) (st := []) dX12_atom_4 ml_X12_283 sh_97 rfl (al_97 hn) rfl rfl (Nat.le_of_ble_eq_true rfl) (RtI.mono w (fun r1 h1 w => ?_))
  obtain ⟨o1, w⟩ := w
  refine g_if_eq (tgt := 14) dX12_atom_7 rfl o1 ?_
  refine ite_imp (fun w => ?_) (fun w => ?_) w
  · refine g_aload_n dX12_atom_14 rfl ?_
    refine g_ldc2 (n := 1970496868) dX12_atom_15 kl_X12_201 rfl ?_
    refine g_callVI (n := 1) (As := [aL 1970496868]) (st := []) dX12_atom_18 ml_X12_283 sh_97 rfl (al_97 hn) rfl rfl (Nat.le_of_ble_eq_true rfl) (RtI.mono w (fun r2 h2 w => ?_))
    obtain ⟨o2, w⟩ := w
    refine g_if_eq (tgt := 28) dX12_atom_21 rfl o2 ?_
    refine ite_imp (fun w => ?_) (fun w => ?_) w
    · refine g_aload_n dX12_atom_28 rfl ?_
      refine g_ldc2 (n := 26990) dX12_atom_29 kl_X12_197 rfl ?_
      refine g_callVI (n := 1) (As := [aL 26990]) (st := []) dX12_atom_32 ml_X12_283 sh_97 rfl (al_97 hn) rfl rfl (Nat.le_of_ble_eq_true rfl) (RtI.mono w (fun r3 h3 w => ?_))
      obtain ⟨o3, w⟩ := w
      refine g_if_eq (tgt := 42) dX12_atom_35 rfl o3 ?_
      refine ite_imp (fun w => ?_) (fun w => ?_) w
      · refine g_aload_n dX12_atom_42 rfl ?_
        refine g_ldc2 (n := 1752132708) dX12_atom_43 kl_X12_203 rfl ?_
        refine g_callVI (n := 1) (As := [aL 1752132708]) (st := []) dX12_atom_46 ml_X12_283 sh_97 rfl (al_97 hn) rfl rfl (Nat.le_of_ble_eq_true rfl) (RtI.mono w (fun r4 h4 w => ?_))
        obtain ⟨o4, w⟩ := w
        refine g_if_eq (tgt := 56) dX12_atom_49 rfl o4 ?_
        refine ite_imp (fun w => ?_) (fun w => ?_) w
        · refine g_aload_n dX12_atom_56 rfl ?_
          refine g_ldc2 (n := 1885434739) dX12_atom_57 kl_X12_205 rfl ?_
          refine g_callVI (n := 1) (As := [aL 1885434739]) (st := []) dX12_atom_60 ml_X12_283 sh_97 rfl (al_97 hn) rfl rfl (Nat.le_of_ble_eq_true rfl) (RtI.mono w (fun r5 h5 w => ?_))
          obtain ⟨o5, w⟩ := w
          refine g_if_eq (tgt := 70) dX12_atom_63 rfl o5 ?_
          refine ite_imp (fun w => ?_) (fun w => ?_) w
          · refine g_aload_n dX12_atom_70 rfl ?_
            refine g_ldc2 (n := 126926792778084) dX12_atom_71 kl_X12_207 rfl ?_
            refine g_callVI (n := 1) (As := [aL 126926792778084]) (st := []) dX12_atom_74 ml_X12_283 sh_97 rfl (al_97 hn) rfl rfl (Nat.le_of_ble_eq_true rfl) (RtI.mono w (fun r6 h6 w => ?_))
            obtain ⟨o6, w⟩ := w
            refine g_if_eq (tgt := 84) dX12_atom_77 rfl o6 ?_
            refine ite_imp (fun w => ?_) (fun w => ?_) w
            · refine g_aload_n dX12_atom_84 rfl ?_
              refine g_ldc2 (n := 1667591276) dX12_atom_85 kl_X12_209 rfl ?_
              refine g_callVI (n := 1) (As := [aL 1667591276]) (st := []) dX12_atom_88 ml_X12_283 sh_97 rfl (al_97 hn) rfl rfl (Nat.le_of_ble_eq_true rfl) (RtI.mono w (fun r7 h7 w => ?_))
              obtain ⟨o7, w⟩ := w
              refine g_if_eq (tgt := 99) dX12_atom_91 rfl o7 ?_
              refine ite_imp (fun w => ?_) (fun w => ?_) w
              · refine g_iconst dX12_atom_99 ?_
                exact g_retI dX12_atom_100 rfl w
              · refine g_bipush dX12_atom_94 rfl ?_
                refine g_goto (tgt := 100) dX12_atom_96 rfl ?_
                exact g_retI dX12_atom_100 rfl w
            · refine g_iconst dX12_atom_80 ?_
              refine g_goto (tgt := 100) dX12_atom_81 rfl ?_
              exact g_retI dX12_atom_100 rfl w
          · refine g_iconst dX12_atom_66 ?_
            refine g_goto (tgt := 100) dX12_atom_67 rfl ?_
            exact g_retI dX12_atom_100 rfl w
        · refine g_iconst dX12_atom_52 ?_
          refine g_goto (tgt := 100) dX12_atom_53 rfl ?_
          exact g_retI dX12_atom_100 rfl w
      · refine g_iconst dX12_atom_38 ?_
        refine g_goto (tgt := 100) dX12_atom_39 rfl ?_
        exact g_retI dX12_atom_100 rfl w
    · refine g_iconst dX12_atom_24 ?_
      refine g_goto (tgt := 100) dX12_atom_25 rfl ?_
      exact g_retI dX12_atom_100 rfl w
  · refine g_iconst dX12_atom_10 ?_
    refine g_goto (tgt := 100) dX12_atom_11 rfl ?_
    exact g_retI dX12_atom_100 rfl w
theorem b_X12_one_0 {l : Launch} {D : Nat} {ζ : ZP} {h : HI} {Q : Int → HI → Prop} (hn : 144 ≤ ζ.2.2.2.2) (w : RtI l D mX12_isWord (zz ζ) [aP 97, aL 7237492] h (fun r1 h1 => RtI l D mX12_atom (zz ζ) [aP 97] h1 (fun r2 h2 => (rg r1) ∧ (if ¬ r1 = 0 then (G l (D + 1) 0 0 mX12_one (zz ζ) 36 [aP 97, aI r1, aI r2] [] h2 (qI (zz ζ) Q)) else ((rg r2) ∧ (if 0 ≤ r2 then (G l (D + 1) 0 0 mX12_one (zz ζ) 36 [aP 97, aI r1, aI r2] [] h2 (qI (zz ζ) Q)) else (RtI l D mX12_isSign (zz ζ) [aP 97, aI 40] h2 (fun r3 h3 => (rg r3) ∧ (if ¬ r3 = 0 then (G l (D + 1) 0 0 mX12_one (zz ζ) 36 [aP 97, aI r1, aI r2] [] h3 (qI (zz ζ) Q)) else (RtI l D mX12_bad (zz ζ) [aP 97, aI 1] h3 (fun r4 h4 => (r4 = 0 ∨ r4 = 1) ∧ Q r4 h4))))))))))) : G l (D + 1) 0 0 mX12_one (zz ζ) 0 [aP 97, aU, aU] [] h (qI (zz ζ) Q) := by
  refine g_aload_n dX12_one_0 rfl ?_
  refine g_ldc2 (n := 7237492) dX12_one_1 kl_X12_195 rfl ?_
  refine g_callVI (n := 1) (As := [aL 7237492]) (st := []) dX12_one_4 ml_X12_283 sh_97 rfl (al_97 hn) rfl rfl (Nat.le_of_ble_eq_true rfl) (RtI.mono w (fun r1 h1 w => ?_))
  refine g_istore_n (ls' := [aP 97, aI r1, aU]) dX12_one_7 (Nat.le_of_ble_eq_true rfl) rfl rfl ?_
  refine g_aload_n dX12_one_8 rfl ?_
  refine g_callVI (n := 0) (As := []) (st := []) dX12_one_9 ml_X12_375 sh_97 rfl (al_97 hn) rfl rfl (Nat.le_of_ble_eq_true rfl) (RtI.mono w (fun r2 h2 w => ?_))
  refine g_istore_n (ls' := [aP 97, aI r1, aI r2]) dX12_one_12 (Nat.le_of_ble_eq_true rfl) rfl rfl ?_
  refine g_iload_n dX12_one_13 rfl ?_
  obtain ⟨o1, w⟩ := w
  refine g_if_ne (tgt := 36) dX12_one_14 rfl o1 ?_
  refine ite_imp (fun w => ?_) (fun w => ?_) w
  · exact g_sub (ls' := [aP 97, aI r1, aI r2]) ⟨Or.inr rfl, Or.inr rfl, Or.inr rfl, trivial⟩ w
  · refine g_iload_n dX12_one_17 rfl ?_
    obtain ⟨o2, w⟩ := w
    refine g_if_ge (tgt := 36) dX12_one_18 rfl o2 ?_
    refine ite_imp (fun w => ?_) (fun w => ?_) w
    · exact g_sub (ls' := [aP 97, aI r1, aI r2]) ⟨Or.inr rfl, Or.inr rfl, Or.inr rfl, trivial⟩ w
    · refine g_aload_n dX12_one_21 rfl ?_
      refine g_bipush dX12_one_22 rfl ?_
      refine g_callVI (n := 1) (As := [aI 40]) (st := []) dX12_one_24 ml_X12_253 sh_97 rfl (al_97 hn) rfl rfl (Nat.le_of_ble_eq_true rfl) (RtI.mono w (fun r3 h3 w => ?_))
      obtain ⟨o3, w⟩ := w
      refine g_if_ne (tgt := 36) dX12_one_27 rfl o3 ?_
      refine ite_imp (fun w => ?_) (fun w => ?_) w
      · exact g_sub (ls' := [aP 97, aI r1, aI r2]) ⟨Or.inr rfl, Or.inr rfl, Or.inr rfl, trivial⟩ w
      · refine g_aload_n dX12_one_30 rfl ?_
        refine g_iconst dX12_one_31 ?_
        refine g_callVI (n := 1) (As := [aI 1]) (st := []) dX12_one_32 ml_X12_256 sh_97 rfl (al_97 hn) rfl rfl (Nat.le_of_ble_eq_true rfl) (RtI.mono w (fun r4 h4 w => ?_))
        obtain ⟨o4, w⟩ := w
        exact g_retZ dX12_one_35 rfl o4 w
theorem b_X12_one_36 {l : Launch} {D : Nat} {ζ : ZP} {h : HI} {Q : Int → HI → Prop} {x1 x2 : Int} (hn : 144 ≤ ζ.2.2.2.2) (w : (rg (h 97 35)) ∧ (if (h 97 35) = 20 then (RtI l D mX12_bad (zz ζ) [aP 97, aI 4] h (fun r1 h1 => (r1 = 0 ∨ r1 = 1) ∧ Q r1 h1)) else (RtI l D mX12_open (zz ζ) [aP 97] h (fun r2 h2 => (rg r2) ∧ (if ¬ r2 = 8 then (RtV l D mX12_next (zz ζ) [aP 97] (hu h2 97 35 ((h2 97 35) + 1)) (fun h3 => (rg x2) ∧ (if 0 ≤ x2 then (RtI l D mX12_asks (zz ζ) [aP 97, aI x2] h3 (fun r4 h4 => (r4 = 0 ∨ r4 = 1) ∧ Q r4 h4)) else ((rg x1) ∧ (if x1 = 0 then ((0 ≤ (h3 97 34) ∧ (h3 97 34) < 30) ∧ G l (D + 1) 0 0 mX12_one (zz ζ) 0 [aP 97, aU, aU] [] (hu (hu h3 112 (h3 97 34) 10) 97 34 ((h3 97 34) + 1)) (qI (zz ζ) Q)) else ((0 ≤ (h3 97 34) ∧ (h3 97 34) < 30) ∧ G l (D + 1) 0 0 mX12_one (zz ζ) 0 [aP 97, aU, aU] [] (hu (hu h3 112 (h3 97 34) 7) 97 34 ((h3 97 34) + 1)) (qI (zz ζ) Q))))))) else (RtI l D mX12_bad (zz ζ) [aP 97, aI 4] h2 (fun r5 h5 => (r5 = 0 ∨ r5 = 1) ∧ Q r5 h5))))))) : G l (D + 1) 0 0 mX12_one (zz ζ) 36 [aP 97, aI x1, aI x2] [] h (qI (zz ζ) Q) := by
  refine g_aload_n dX12_one_36 rfl ?_
  refine g_getI (J := 35) dX12_one_37 fl_X12_378 sh_97 (al_97 hn) (fun _ _ _ => rfl) rfl ?_
  refine g_bipush dX12_one_40 rfl ?_
  obtain ⟨o1, w⟩ := w
  refine g_cmp_eq (tgt := 54) dX12_one_42 rfl o1 (by decide) ?_
  refine ite_imp (fun w => ?_) (fun w => ?_) w
  · refine g_aload_n dX12_one_54 rfl ?_
    refine g_iconst dX12_one_55 ?_
    refine g_callVI (n := 1) (As := [aI 4]) (st := []) dX12_one_56 ml_X12_256 sh_97 rfl (al_97 hn) rfl rfl (Nat.le_of_ble_eq_true rfl) (RtI.mono w (fun r1 h1 w => ?_))
    obtain ⟨o2, w⟩ := w
    exact g_retZ dX12_one_59 rfl o2 w
  · refine g_aload_n dX12_one_45 rfl ?_
    refine g_callVI (n := 0) (As := []) (st := []) dX12_one_46 ml_X12_381 sh_97 rfl (al_97 hn) rfl rfl (Nat.le_of_ble_eq_true rfl) (RtI.mono w (fun r2 h2 w => ?_))
    refine g_bipush dX12_one_49 rfl ?_
    obtain ⟨o3, w⟩ := w
    refine g_cmp_ne (tgt := 60) dX12_one_51 rfl o3 (by decide) ?_
    refine ite_imp (fun w => ?_) (fun w => ?_) w
    · refine g_aload_n dX12_one_60 rfl ?_
      refine g_dup dX12_one_61 rfl ?_
      refine g_getI (J := 35) dX12_one_62 fl_X12_378 sh_97 (al_97 hn) (fun _ _ _ => rfl) rfl ?_
      refine g_iconst dX12_one_65 ?_
      refine g_iadd dX12_one_66 ?_
      refine g_putI (J := 35) dX12_one_67 fl_X12_378 sh_97 (al_97 hn) rfl rfl ?_
      refine g_aload_n dX12_one_70 rfl ?_
      refine g_callVV (n := 0) (As := []) (st := []) dX12_one_71 ml_X12_259 sh_97 rfl (al_97 hn) rfl rfl (Nat.le_of_ble_eq_true rfl) (RtV.mono w (fun h3 w => ?_))
      refine g_iload_n dX12_one_74 rfl ?_
      obtain ⟨o4, w⟩ := w
      refine g_if_ge (tgt := 111) dX12_one_75 rfl o4 ?_
      refine ite_imp (fun w => ?_) (fun w => ?_) w
      · refine g_aload_n dX12_one_111 rfl ?_
        refine g_iload_n dX12_one_112 rfl ?_
        refine g_callVI (n := 1) (As := [aI x2]) (st := []) dX12_one_113 ml_X12_384 sh_97 rfl (al_97 hn) rfl rfl (Nat.le_of_ble_eq_true rfl) (RtI.mono w (fun r4 h4 w => ?_))
        obtain ⟨o5, w⟩ := w
        exact g_retZ dX12_one_116 rfl o5 w
      · refine g_aload_n dX12_one_78 rfl ?_
        refine g_getR dX12_one_79 fl_X12_75 sh_97 (al_97 hn) (fun _ _ _ => rfl) rf_97_31 ?_
        refine g_aload_n dX12_one_82 rfl ?_
        refine g_getI (J := 34) dX12_one_83 fl_X12_356 sh_97 (al_97 hn) (fun _ _ _ => rfl) rfl ?_
        refine g_iload_n dX12_one_86 rfl ?_
        obtain ⟨o6, w⟩ := w
        refine g_if_eq (tgt := 95) dX12_one_87 rfl o6 ?_
        refine ite_imp (fun w => ?_) (fun w => ?_) w
        · refine g_bipush dX12_one_95 rfl ?_
          obtain ⟨o7, w⟩ := w
          refine g_iast dX12_one_97 sh_112 (al_112 hn) (Nat.le_of_ble_eq_true rfl) o7 ?_
          refine g_aload_n dX12_one_98 rfl ?_
          refine g_dup dX12_one_99 rfl ?_
          refine g_getI (J := 34) dX12_one_100 fl_X12_356 sh_97 (al_97 hn) (fun _ _ _ => rfl) rfl ?_
          refine g_iconst dX12_one_103 ?_
          refine g_iadd dX12_one_104 ?_
          refine g_putI (J := 34) dX12_one_105 fl_X12_356 sh_97 (al_97 hn) rfl rfl ?_
          refine g_goto (tgt := 0) dX12_one_108 rfl ?_
          exact g_sub (ls' := [aP 97, aU, aU]) ⟨Or.inr rfl, Or.inl rfl, Or.inl rfl, trivial⟩ w
        · refine g_bipush dX12_one_90 rfl ?_
          refine g_goto (tgt := 97) dX12_one_92 rfl ?_
          obtain ⟨o8, w⟩ := w
          refine g_iast dX12_one_97 sh_112 (al_112 hn) (Nat.le_of_ble_eq_true rfl) o8 ?_
          refine g_aload_n dX12_one_98 rfl ?_
          refine g_dup dX12_one_99 rfl ?_
          refine g_getI (J := 34) dX12_one_100 fl_X12_356 sh_97 (al_97 hn) (fun _ _ _ => rfl) rfl ?_
          refine g_iconst dX12_one_103 ?_
          refine g_iadd dX12_one_104 ?_
          refine g_putI (J := 34) dX12_one_105 fl_X12_356 sh_97 (al_97 hn) rfl rfl ?_
          refine g_goto (tgt := 0) dX12_one_108 rfl ?_
          exact g_sub (ls' := [aP 97, aU, aU]) ⟨Or.inr rfl, Or.inl rfl, Or.inl rfl, trivial⟩ w
    · refine g_aload_n dX12_one_54 rfl ?_
      refine g_iconst dX12_one_55 ?_
      refine g_callVI (n := 1) (As := [aI 4]) (st := []) dX12_one_56 ml_X12_256 sh_97 rfl (al_97 hn) rfl rfl (Nat.le_of_ble_eq_true rfl) (RtI.mono w (fun r5 h5 w => ?_))
      obtain ⟨o9, w⟩ := w
      exact g_retZ dX12_one_59 rfl o9 w
theorem e_X12_one {l : Launch} {D : Nat} {ζ : ZP} {h : HI} {Q : Int → HI → Prop} (hn : 144 ≤ ζ.2.2.2.2) (w : G l (D + 1) 0 0 mX12_one (zz ζ) 0 [aP 97, aU, aU] [] h (qI (zz ζ) Q)) : RtI l (D + 1) mX12_one (zz ζ) [aP 97] h Q := by
  refine RtI.of 2 pn_X12 [aP 97, aU, aU] rfl rfl ?_
  exact g_sub (ls' := [aP 97, aU, aU]) ⟨Or.inr rfl, Or.inl rfl, Or.inl rfl, trivial⟩ w
theorem b_X12_asks_27 {l : Launch} {D : Nat} {ζ : ZP} {h : HI} {Q : Int → HI → Prop} {x1 x2 x3 x4 : Int} (hn : 144 ≤ ζ.2.2.2.2) (w : (rg x4) ∧ (rg (h 99 1)) ∧ (if (h 99 1) ≤ x4 then ((rg x2) ∧ (if 0 ≤ x2 then (RtV l D mX12_next (zz ζ) [aP 97] h (fun h1 => RtV l D mX12_write (zz ζ) [aP 97, aI x1, aI x2, aI x3] h1 (fun h2 => RtV l D mX12_writeDown (zz ζ) [aP 97, aI 3] h2 (fun h3 => Q 1 h3)))) else (RtI l D mX12_bad (zz ζ) [aP 97, aI 3] h (fun r4 h4 => (r4 = 0 ∨ r4 = 1) ∧ Q r4 h4)))) else ((0 ≤ (6 + x4) ∧ (6 + x4) < 28) ∧ (rl (h 101 (6 + x4))) ∧ (rl (h 97 16)) ∧ (if ¬ (h 101 (6 + x4)) = (h 97 16) then (G l (D + 1) 0 0 mX12_asks (zz ζ) 27 [aP 97, aI x1, aI x2, aI x3, aI (x4 + 1)] [] h (qI (zz ζ) Q)) else (G l (D + 1) 0 0 mX12_asks (zz ζ) 27 [aP 97, aI x1, aI x4, aI x3, aI (x4 + 1)] [] h (qI (zz ζ) Q)))))) : G l (D + 1) 0 0 mX12_asks (zz ζ) 27 [aP 97, aI x1, aI x2, aI x3, aI x4] [] h (qI (zz ζ) Q) := by
  refine g_iload dX12_asks_27 rfl ?_
  refine g_aload_n dX12_asks_29 rfl ?_
  refine g_getR dX12_asks_30 fl_X12_33 sh_97 (al_97 hn) (fun _ _ _ => rfl) rf_97_6 ?_
  refine g_iconst dX12_asks_33 ?_
  refine g_iald dX12_asks_34 sh_99 (al_99 hn) (Nat.le_of_ble_eq_true rfl) (by decide) ?_
  obtain ⟨o1, w⟩ := w
  obtain ⟨o2, w⟩ := w
  refine g_cmp_ge (tgt := 69) dX12_asks_35 rfl o1 o2 ?_
  refine ite_imp (fun w => ?_) (fun w => ?_) w
  · refine g_iload_n dX12_asks_69 rfl ?_
    obtain ⟨o3, w⟩ := w
    refine g_if_ge (tgt := 79) dX12_asks_70 rfl o3 ?_
    refine ite_imp (fun w => ?_) (fun w => ?_) w
    · refine g_aload_n dX12_asks_79 rfl ?_
      refine g_callVV (n := 0) (As := []) (st := []) dX12_asks_80 ml_X12_259 sh_97 rfl (al_97 hn) rfl rfl (Nat.le_of_ble_eq_true rfl) (RtV.mono w (fun h1 w => ?_))
      refine g_goto (tgt := 156) dX12_asks_83 rfl ?_
      refine g_aload_n dX12_asks_156 rfl ?_
      refine g_iload_n dX12_asks_157 rfl ?_
      refine g_iload_n dX12_asks_158 rfl ?_
      refine g_iload_n dX12_asks_159 rfl ?_
      refine g_callVV (n := 3) (As := [aI x1, aI x2, aI x3]) (st := []) dX12_asks_160 ml_X12_362 sh_97 rfl (al_97 hn) rfl rfl (Nat.le_of_ble_eq_true rfl) (RtV.mono w (fun h2 w => ?_))
      refine g_aload_n dX12_asks_163 rfl ?_
      refine g_iconst dX12_asks_164 ?_
      refine g_callVV (n := 1) (As := [aI 3]) (st := []) dX12_asks_165 ml_X12_372 sh_97 rfl (al_97 hn) rfl rfl (Nat.le_of_ble_eq_true rfl) (RtV.mono w (fun h3 w => ?_))
      refine g_iconst dX12_asks_168 ?_
      exact g_retZ dX12_asks_169 rfl (Or.inr rfl) w
    · refine g_aload_n dX12_asks_73 rfl ?_
      refine g_iconst dX12_asks_74 ?_
      refine g_callVI (n := 1) (As := [aI 3]) (st := []) dX12_asks_75 ml_X12_256 sh_97 rfl (al_97 hn) rfl rfl (Nat.le_of_ble_eq_true rfl) (RtI.mono w (fun r4 h4 w => ?_))
      obtain ⟨o4, w⟩ := w
      exact g_retZ dX12_asks_78 rfl o4 w
  · refine g_aload_n dX12_asks_38 rfl ?_
    refine g_getR dX12_asks_39 fl_X12_40 sh_97 (al_97 hn) (fun _ _ _ => rfl) rf_97_8 ?_
    refine g_bipush dX12_asks_42 rfl ?_
    refine g_iload dX12_asks_44 rfl ?_
    refine g_iadd dX12_asks_46 ?_
    obtain ⟨o5, w⟩ := w
    refine g_lald dX12_asks_47 sh_101 (al_101 hn) (Nat.le_of_ble_eq_true rfl) o5 ?_
    refine g_aload_n dX12_asks_48 rfl ?_
    refine g_getJ (J := 16) dX12_asks_49 fl_X12_243 sh_97 (al_97 hn) (fun _ _ _ => rfl) rfl ?_
    obtain ⟨o6, w⟩ := w
    obtain ⟨o7, w⟩ := w
    refine g_lcmp dX12_asks_52 o6 o7 ?_
    refine g_if_ne (tgt := 61) dX12_asks_53 rfl (rg_lcm3 _ _) ?_
    refine ite_imp2 lcm3_ne (fun w => ?_) (fun w => ?_) w
    · refine g_iload_n dX12_asks_61 rfl ?_
      refine g_istore_n (ls' := [aP 97, aI x1, aI x2, aI x3, aI x4]) dX12_asks_62 (Nat.le_of_ble_eq_true rfl) rfl rfl ?_
      refine g_iinc (ls' := [aP 97, aI x1, aI x2, aI x3, aI (x4 + 1)]) dX12_asks_63 rfl (Nat.le_of_ble_eq_true rfl) rfl rfl ?_
      refine g_goto (tgt := 27) dX12_asks_66 rfl ?_
      exact g_sub (ls' := [aP 97, aI x1, aI x2, aI x3, aI (x4 + 1)]) ⟨Or.inr rfl, Or.inr rfl, Or.inr rfl, Or.inr rfl, Or.inr rfl, trivial⟩ w
    · refine g_iload dX12_asks_56 rfl ?_
      refine g_goto (tgt := 62) dX12_asks_58 rfl ?_
      refine g_istore_n (ls' := [aP 97, aI x1, aI x4, aI x3, aI x4]) dX12_asks_62 (Nat.le_of_ble_eq_true rfl) rfl rfl ?_
      refine g_iinc (ls' := [aP 97, aI x1, aI x4, aI x3, aI (x4 + 1)]) dX12_asks_63 rfl (Nat.le_of_ble_eq_true rfl) rfl rfl ?_
      refine g_goto (tgt := 27) dX12_asks_66 rfl ?_
      exact g_sub (ls' := [aP 97, aI x1, aI x4, aI x3, aI (x4 + 1)]) ⟨Or.inr rfl, Or.inr rfl, Or.inr rfl, Or.inr rfl, Or.inr rfl, trivial⟩ w
theorem b_X12_asks_124 {l : Launch} {D : Nat} {ζ : ZP} {h : HI} {Q : Int → HI → Prop} {x1 : Int} (hn : 144 ≤ ζ.2.2.2.2) (w : RtV l D mX12_next (zz ζ) [aP 97] h (fun h1 => (rg (h1 97 10)) ∧ (if (h1 97 10) = 2 then (RtV l D mX12_next (zz ζ) [aP 97] h1 (fun h2 => RtV l D mX12_write (zz ζ) [aP 97, aI x1, aI (h 97 13), aI (h1 97 13)] h2 (fun h3 => RtV l D mX12_writeDown (zz ζ) [aP 97, aI 3] h3 (fun h4 => Q 1 h4)))) else (RtI l D mX12_bad (zz ζ) [aP 97, aI 1] h1 (fun r5 h5 => (r5 = 0 ∨ r5 = 1) ∧ Q r5 h5))))) : G l (D + 1) 0 0 mX12_asks (zz ζ) 124 [aP 97, aI x1, aU, aU, aU] [] h (qI (zz ζ) Q) := by
  refine g_aload_n dX12_asks_124 rfl ?_
  refine g_getI (J := 13) dX12_asks_125 fl_X12_240 sh_97 (al_97 hn) (fun _ _ _ => rfl) rfl ?_
  refine g_istore_n (ls' := [aP 97, aI x1, aI (h 97 13), aU, aU]) dX12_asks_128 (Nat.le_of_ble_eq_true rfl) rfl rfl ?_
  refine g_aload_n dX12_asks_129 rfl ?_
  refine g_callVV (n := 0) (As := []) (st := []) dX12_asks_130 ml_X12_259 sh_97 rfl (al_97 hn) rfl rfl (Nat.le_of_ble_eq_true rfl) (RtV.mono w (fun h1 w => ?_))
  refine g_aload_n dX12_asks_133 rfl ?_
  refine g_getI (J := 10) dX12_asks_134 fl_X12_230 sh_97 (al_97 hn) (fun _ _ _ => rfl) rfl ?_
  refine g_iconst dX12_asks_137 ?_
  obtain ⟨o1, w⟩ := w
  refine g_cmp_eq (tgt := 147) dX12_asks_138 rfl o1 (by decide) ?_
  refine ite_imp (fun w => ?_) (fun w => ?_) w
  · refine g_aload_n dX12_asks_147 rfl ?_
    refine g_getI (J := 13) dX12_asks_148 fl_X12_240 sh_97 (al_97 hn) (fun _ _ _ => rfl) rfl ?_
    refine g_istore_n (ls' := [aP 97, aI x1, aI (h 97 13), aI (h1 97 13), aU]) dX12_asks_151 (Nat.le_of_ble_eq_true rfl) rfl rfl ?_
    refine g_aload_n dX12_asks_152 rfl ?_
    refine g_callVV (n := 0) (As := []) (st := []) dX12_asks_153 ml_X12_259 sh_97 rfl (al_97 hn) rfl rfl (Nat.le_of_ble_eq_true rfl) (RtV.mono w (fun h2 w => ?_))
    refine g_aload_n dX12_asks_156 rfl ?_
    refine g_iload_n dX12_asks_157 rfl ?_
    refine g_iload_n dX12_asks_158 rfl ?_
    refine g_iload_n dX12_asks_159 rfl ?_
    refine g_callVV (n := 3) (As := [aI x1, aI (h 97 13), aI (h1 97 13)]) (st := []) dX12_asks_160 ml_X12_362 sh_97 rfl (al_97 hn) rfl rfl (Nat.le_of_ble_eq_true rfl) (RtV.mono w (fun h3 w => ?_))
    refine g_aload_n dX12_asks_163 rfl ?_
    refine g_iconst dX12_asks_164 ?_
    refine g_callVV (n := 1) (As := [aI 3]) (st := []) dX12_asks_165 ml_X12_372 sh_97 rfl (al_97 hn) rfl rfl (Nat.le_of_ble_eq_true rfl) (RtV.mono w (fun h4 w => ?_))
    refine g_iconst dX12_asks_168 ?_
    exact g_retZ dX12_asks_169 rfl (Or.inr rfl) w
  · refine g_aload_n dX12_asks_141 rfl ?_
    refine g_iconst dX12_asks_142 ?_
    refine g_callVI (n := 1) (As := [aI 1]) (st := []) dX12_asks_143 ml_X12_256 sh_97 rfl (al_97 hn) rfl rfl (Nat.le_of_ble_eq_true rfl) (RtI.mono w (fun r5 h5 w => ?_))
    obtain ⟨o2, w⟩ := w
    exact g_retZ dX12_asks_146 rfl o2 w
theorem e_X12_asks {l : Launch} {D : Nat} {ζ : ZP} {h : HI} {Q : Int → HI → Prop} {x1 : Int} (hn : 144 ≤ ζ.2.2.2.2) (w : (rg x1) ∧ (if ¬ x1 = 2 then (if x1 ≤ 2 then (RtV l D mX12_write (zz ζ) [aP 97, aI x1, aI 0, aI 0] h (fun h1 => RtV l D mX12_writeDown (zz ζ) [aP 97, aI 3] h1 (fun h2 => Q 1 h2))) else (RtI l D mX12_isSign (zz ζ) [aP 97, aI 60] h (fun r3 h3 => (rg r3) ∧ (if ¬ r3 = 0 then (G l (D + 1) 0 0 mX12_asks (zz ζ) 124 [aP 97, aI x1, aU, aU, aU] [] h3 (qI (zz ζ) Q)) else (RtI l D mX12_isSign (zz ζ) [aP 97, aI 61] h3 (fun r4 h4 => (rg r4) ∧ (if ¬ r4 = 0 then (G l (D + 1) 0 0 mX12_asks (zz ζ) 124 [aP 97, aI x1, aU, aU, aU] [] h4 (qI (zz ζ) Q)) else (RtI l D mX12_isSign (zz ζ) [aP 97, aI 62] h4 (fun r5 h5 => (rg r5) ∧ (if ¬ r5 = 0 then (G l (D + 1) 0 0 mX12_asks (zz ζ) 124 [aP 97, aI x1, aU, aU, aU] [] h5 (qI (zz ζ) Q)) else (RtI l D mX12_bad (zz ζ) [aP 97, aI 1] h5 (fun r6 h6 => (r6 = 0 ∨ r6 = 1) ∧ Q r6 h6)))))))))))) else (RtI l D mX12_isName (zz ζ) [aP 97] h (fun r7 h7 => (rg r7) ∧ (if ¬ r7 = 0 then (G l (D + 1) 0 0 mX12_asks (zz ζ) 27 [aP 97, aI x1, aI (-1), aI 0, aI 0] [] h7 (qI (zz ζ) Q)) else (RtI l D mX12_bad (zz ζ) [aP 97, aI 1] h7 (fun r8 h8 => (r8 = 0 ∨ r8 = 1) ∧ Q r8 h8))))))) : RtI l (D + 1) mX12_asks (zz ζ) [aP 97, aI x1] h Q := by
  refine RtI.of 3 pn_X12 [aP 97, aI x1, aU, aU, aU] rfl rfl ?_
  refine g_iconst dX12_asks_0 ?_
  refine g_istore_n (ls' := [aP 97, aI x1, aI 0, aU, aU]) dX12_asks_1 (Nat.le_of_ble_eq_true rfl) rfl rfl ?_
  refine g_iconst dX12_asks_2 ?_
  refine g_istore_n (ls' := [aP 97, aI x1, aI 0, aI 0, aU]) dX12_asks_3 (Nat.le_of_ble_eq_true rfl) rfl rfl ?_
  refine g_iload_n dX12_asks_4 rfl ?_
  refine g_iconst dX12_asks_5 ?_
  obtain ⟨o1, w⟩ := w
  refine g_cmp_ne (tgt := 86) dX12_asks_6 rfl o1 (by decide) ?_
  refine ite_imp (fun w => ?_) (fun w => ?_) w
  · refine g_iload_n dX12_asks_86 rfl ?_
    refine g_iconst dX12_asks_87 ?_
    refine g_cmp_le (tgt := 156) dX12_asks_88 rfl o1 (by decide) ?_
    refine ite_imp (fun w => ?_) (fun w => ?_) w
    · refine g_aload_n dX12_asks_156 rfl ?_
      refine g_iload_n dX12_asks_157 rfl ?_
      refine g_iload_n dX12_asks_158 rfl ?_
      refine g_iload_n dX12_asks_159 rfl ?_
      refine g_callVV (n := 3) (As := [aI x1, aI 0, aI 0]) (st := []) dX12_asks_160 ml_X12_362 sh_97 rfl (al_97 hn) rfl rfl (Nat.le_of_ble_eq_true rfl) (RtV.mono w (fun h1 w => ?_))
      refine g_aload_n dX12_asks_163 rfl ?_
      refine g_iconst dX12_asks_164 ?_
      refine g_callVV (n := 1) (As := [aI 3]) (st := []) dX12_asks_165 ml_X12_372 sh_97 rfl (al_97 hn) rfl rfl (Nat.le_of_ble_eq_true rfl) (RtV.mono w (fun h2 w => ?_))
      refine g_iconst dX12_asks_168 ?_
      exact g_retZ dX12_asks_169 rfl (Or.inr rfl) w
    · refine g_aload_n dX12_asks_91 rfl ?_
      refine g_bipush dX12_asks_92 rfl ?_
      refine g_callVI (n := 1) (As := [aI 60]) (st := []) dX12_asks_94 ml_X12_253 sh_97 rfl (al_97 hn) rfl rfl (Nat.le_of_ble_eq_true rfl) (RtI.mono w (fun r3 h3 w => ?_))
      obtain ⟨o2, w⟩ := w
      refine g_if_ne (tgt := 124) dX12_asks_97 rfl o2 ?_
      refine ite_imp (fun w => ?_) (fun w => ?_) w
      · exact g_sub (ls' := [aP 97, aI x1, aU, aU, aU]) ⟨Or.inr rfl, Or.inr rfl, Or.inl rfl, Or.inl rfl, Or.inl rfl, trivial⟩ w
      · refine g_aload_n dX12_asks_100 rfl ?_
        refine g_bipush dX12_asks_101 rfl ?_
        refine g_callVI (n := 1) (As := [aI 61]) (st := []) dX12_asks_103 ml_X12_253 sh_97 rfl (al_97 hn) rfl rfl (Nat.le_of_ble_eq_true rfl) (RtI.mono w (fun r4 h4 w => ?_))
        obtain ⟨o3, w⟩ := w
        refine g_if_ne (tgt := 124) dX12_asks_106 rfl o3 ?_
        refine ite_imp (fun w => ?_) (fun w => ?_) w
        · exact g_sub (ls' := [aP 97, aI x1, aU, aU, aU]) ⟨Or.inr rfl, Or.inr rfl, Or.inl rfl, Or.inl rfl, Or.inl rfl, trivial⟩ w
        · refine g_aload_n dX12_asks_109 rfl ?_
          refine g_bipush dX12_asks_110 rfl ?_
          refine g_callVI (n := 1) (As := [aI 62]) (st := []) dX12_asks_112 ml_X12_253 sh_97 rfl (al_97 hn) rfl rfl (Nat.le_of_ble_eq_true rfl) (RtI.mono w (fun r5 h5 w => ?_))
          obtain ⟨o4, w⟩ := w
          refine g_if_ne (tgt := 124) dX12_asks_115 rfl o4 ?_
          refine ite_imp (fun w => ?_) (fun w => ?_) w
          · exact g_sub (ls' := [aP 97, aI x1, aU, aU, aU]) ⟨Or.inr rfl, Or.inr rfl, Or.inl rfl, Or.inl rfl, Or.inl rfl, trivial⟩ w
          · refine g_aload_n dX12_asks_118 rfl ?_
            refine g_iconst dX12_asks_119 ?_
            refine g_callVI (n := 1) (As := [aI 1]) (st := []) dX12_asks_120 ml_X12_256 sh_97 rfl (al_97 hn) rfl rfl (Nat.le_of_ble_eq_true rfl) (RtI.mono w (fun r6 h6 w => ?_))
            obtain ⟨o5, w⟩ := w
            exact g_retZ dX12_asks_123 rfl o5 w
  · refine g_aload_n dX12_asks_9 rfl ?_
    refine g_callVI (n := 0) (As := []) (st := []) dX12_asks_10 ml_X12_269 sh_97 rfl (al_97 hn) rfl rfl (Nat.le_of_ble_eq_true rfl) (RtI.mono w (fun r7 h7 w => ?_))
    obtain ⟨o6, w⟩ := w
    refine g_if_ne (tgt := 22) dX12_asks_13 rfl o6 ?_
    refine ite_imp (fun w => ?_) (fun w => ?_) w
    · refine g_iconst dX12_asks_22 ?_
      refine g_istore_n (ls' := [aP 97, aI x1, aI (-1), aI 0, aU]) dX12_asks_23 (Nat.le_of_ble_eq_true rfl) rfl rfl ?_
      refine g_iconst dX12_asks_24 ?_
      refine g_istore (ls' := [aP 97, aI x1, aI (-1), aI 0, aI 0]) dX12_asks_25 (Nat.le_of_ble_eq_true rfl) rfl rfl ?_
      exact g_sub (ls' := [aP 97, aI x1, aI (-1), aI 0, aI 0]) ⟨Or.inr rfl, Or.inr rfl, Or.inr rfl, Or.inr rfl, Or.inr rfl, trivial⟩ w
    · refine g_aload_n dX12_asks_16 rfl ?_
      refine g_iconst dX12_asks_17 ?_
      refine g_callVI (n := 1) (As := [aI 1]) (st := []) dX12_asks_18 ml_X12_256 sh_97 rfl (al_97 hn) rfl rfl (Nat.le_of_ble_eq_true rfl) (RtI.mono w (fun r8 h8 w => ?_))
      obtain ⟨o7, w⟩ := w
      exact g_retZ dX12_asks_21 rfl o7 w
theorem b_X12_rule_63 {l : Launch} {D : Nat} {ζ : ZP} {h : HI} {Q : Int → HI → Prop} {x1 : Int} (hn : 144 ≤ ζ.2.2.2.2) (w : (rg x1) ∧ (rg (3 * (h 97 33))) ∧ (if (3 * (h 97 33)) ≤ x1 then (Q (h 97 35) h) else ((0 ≤ x1 ∧ x1 < 192) ∧ (0 ≤ (2627 + x1) ∧ (2627 + x1) < 2819) ∧ G l (D + 1) 0 0 mX12_rule (zz ζ) 63 [aP 97, aI (x1 + 1)] [] (hu h 99 (2627 + x1) (h 111 x1)) (qI (zz ζ) Q)))) : G l (D + 1) 0 0 mX12_rule (zz ζ) 63 [aP 97, aI x1] [] h (qI (zz ζ) Q) := by
  refine g_iload_n dX12_rule_63 rfl ?_
  refine g_iconst dX12_rule_64 ?_
  refine g_aload_n dX12_rule_65 rfl ?_
  refine g_getI (J := 33) dX12_rule_66 fl_X12_353 sh_97 (al_97 hn) (fun _ _ _ => rfl) rfl ?_
  refine g_imul dX12_rule_69 ?_
  obtain ⟨o1, w⟩ := w
  obtain ⟨o2, w⟩ := w
  refine g_cmp_ge (tgt := 95) dX12_rule_70 rfl o1 o2 ?_
  refine ite_imp (fun w => ?_) (fun w => ?_) w
  · refine g_aload_n dX12_rule_95 rfl ?_
    refine g_getI (J := 35) dX12_rule_96 fl_X12_378 sh_97 (al_97 hn) (fun _ _ _ => rfl) rfl ?_
    exact g_retI dX12_rule_99 rfl w
  · refine g_aload_n dX12_rule_73 rfl ?_
    refine g_getR dX12_rule_74 fl_X12_33 sh_97 (al_97 hn) (fun _ _ _ => rfl) rf_97_6 ?_
    refine g_sipush dX12_rule_77 rfl ?_
    refine g_iload_n dX12_rule_80 rfl ?_
    refine g_iadd dX12_rule_81 ?_
    refine g_aload_n dX12_rule_82 rfl ?_
    refine g_getR dX12_rule_83 fl_X12_72 sh_97 (al_97 hn) (fun _ _ _ => rfl) rf_97_30 ?_
    refine g_iload_n dX12_rule_86 rfl ?_
    obtain ⟨o3, w⟩ := w
    refine g_iald dX12_rule_87 sh_111 (al_111 hn) (Nat.le_of_ble_eq_true rfl) o3 ?_
    obtain ⟨o4, w⟩ := w
    refine g_iast dX12_rule_88 sh_99 (al_99 hn) (Nat.le_of_ble_eq_true rfl) o4 ?_
    refine g_iinc (ls' := [aP 97, aI (x1 + 1)]) dX12_rule_89 rfl (Nat.le_of_ble_eq_true rfl) rfl rfl ?_
    refine g_goto (tgt := 63) dX12_rule_92 rfl ?_
    exact g_sub (ls' := [aP 97, aI (x1 + 1)]) ⟨Or.inr rfl, Or.inr rfl, trivial⟩ w
theorem e_X12_rule {l : Launch} {D : Nat} {ζ : ZP} {h : HI} {Q : Int → HI → Prop} (hn : 144 ≤ ζ.2.2.2.2) (w : RtV l D mX12_taken (zz ζ) [aP 97, aI 200] (hu h 97 0 0) (fun h1 => RtV l D mX12_next (zz ζ) [aP 97] (hu (hu (hu (hu h1 97 14 0) 97 33 0) 97 34 0) 97 35 0) (fun h2 => RtI l D mX12_cond (zz ζ) [aP 97] h2 (fun r3 h3 => (rg r3) ∧ (if ¬ r3 = 0 then (G l (D + 1) 0 0 mX12_rule (zz ζ) 63 [aP 97, aI 0] [] (hu h3 99 16 (h3 97 33)) (qI (zz ζ) Q)) else (Q ((-1) - (h3 97 15)) h3)))))) : RtI l (D + 1) mX12_rule (zz ζ) [aP 97] h Q := by
  refine RtI.of 1 pn_X12 [aP 97, aU] rfl rfl ?_
  refine g_aload_n dX12_rule_0 rfl ?_
  refine g_iconst dX12_rule_1 ?_
  refine g_putI (J := 0) dX12_rule_2 fl_X12_1 sh_97 (al_97 hn) rfl rfl ?_
  refine g_aload_n dX12_rule_5 rfl ?_
  refine g_sipush dX12_rule_6 rfl ?_
  refine g_callVV (n := 1) (As := [aI 200]) (st := []) dX12_rule_9 ml_X12_292 sh_97 rfl (al_97 hn) rfl rfl (Nat.le_of_ble_eq_true rfl) (RtV.mono w (fun h1 w => ?_))
  refine g_aload_n dX12_rule_12 rfl ?_
  refine g_iconst dX12_rule_13 ?_
  refine g_putI (J := 14) dX12_rule_14 fl_X12_247 sh_97 (al_97 hn) rfl rfl ?_
  refine g_aload_n dX12_rule_17 rfl ?_
  refine g_iconst dX12_rule_18 ?_
  refine g_putI (J := 33) dX12_rule_19 fl_X12_353 sh_97 (al_97 hn) rfl rfl ?_
  refine g_aload_n dX12_rule_22 rfl ?_
  refine g_iconst dX12_rule_23 ?_
  refine g_putI (J := 34) dX12_rule_24 fl_X12_356 sh_97 (al_97 hn) rfl rfl ?_
  refine g_aload_n dX12_rule_27 rfl ?_
  refine g_iconst dX12_rule_28 ?_
  refine g_putI (J := 35) dX12_rule_29 fl_X12_378 sh_97 (al_97 hn) rfl rfl ?_
  refine g_aload_n dX12_rule_32 rfl ?_
  refine g_callVV (n := 0) (As := []) (st := []) dX12_rule_33 ml_X12_259 sh_97 rfl (al_97 hn) rfl rfl (Nat.le_of_ble_eq_true rfl) (RtV.mono w (fun h2 w => ?_))
  refine g_aload_n dX12_rule_36 rfl ?_
  refine g_callVI (n := 0) (As := []) (st := []) dX12_rule_37 ml_X12_387 sh_97 rfl (al_97 hn) rfl rfl (Nat.le_of_ble_eq_true rfl) (RtI.mono w (fun r3 h3 w => ?_))
  obtain ⟨o1, w⟩ := w
  refine g_if_ne (tgt := 50) dX12_rule_40 rfl o1 ?_
  refine ite_imp (fun w => ?_) (fun w => ?_) w
  · refine g_aload_n dX12_rule_50 rfl ?_
    refine g_getR dX12_rule_51 fl_X12_33 sh_97 (al_97 hn) (fun _ _ _ => rfl) rf_97_6 ?_
    refine g_bipush dX12_rule_54 rfl ?_
    refine g_aload_n dX12_rule_56 rfl ?_
    refine g_getI (J := 33) dX12_rule_57 fl_X12_353 sh_97 (al_97 hn) (fun _ _ _ => rfl) rfl ?_
    refine g_iast dX12_rule_60 sh_99 (al_99 hn) (Nat.le_of_ble_eq_true rfl) (by decide) ?_
    refine g_iconst dX12_rule_61 ?_
    refine g_istore_n (ls' := [aP 97, aI 0]) dX12_rule_62 (Nat.le_of_ble_eq_true rfl) rfl rfl ?_
    exact g_sub (ls' := [aP 97, aI 0]) ⟨Or.inr rfl, Or.inr rfl, trivial⟩ w
  · refine g_iconst dX12_rule_43 ?_
    refine g_aload_n dX12_rule_44 rfl ?_
    refine g_getI (J := 15) dX12_rule_45 fl_X12_250 sh_97 (al_97 hn) (fun _ _ _ => rfl) rfl ?_
    refine g_isub dX12_rule_48 ?_
    exact g_retI dX12_rule_49 rfl w
theorem b_X12_meetsOne_4 {l : Launch} {D : Nat} {ζ : ZP} {h : HI} {Q : Int → HI → Prop} {x1 x2 x3 : Int} (hn : 144 ≤ ζ.2.2.2.2) (w : (rg x3) ∧ (rg (h 99 16)) ∧ (if (h 99 16) ≤ x3 then (((h 113 0) = 0 ∨ (h 113 0) = 1) ∧ Q (h 113 0) h) else ((0 ≤ (2627 + (3 * x3)) ∧ (2627 + (3 * x3)) < 2819) ∧ (rg (h 99 (2627 + (3 * x3)))) ∧ (if ¬ (h 99 (2627 + (3 * x3))) = 7 then (if (h 99 (2627 + (3 * x3))) = 8 then (G l (D + 1) 0 0 mX12_meetsOne (zz ζ) 77 [aP 97, aI x1, aI x2, aI x3, aI (h 99 (2627 + (3 * x3)))] [] h (qI (zz ζ) Q)) else (if ¬ (h 99 (2627 + (3 * x3))) = 9 then ((0 ≤ ((2627 + (3 * x3)) + 1) ∧ ((2627 + (3 * x3)) + 1) < 2819) ∧ (0 ≤ ((2627 + (3 * x3)) + 2) ∧ ((2627 + (3 * x3)) + 2) < 2819) ∧ RtI l D mX12_so (zz ζ) [aP 97, aI x1, aI (h 99 (2627 + (3 * x3))), aI (h 99 ((2627 + (3 * x3)) + 1)), aI (h 99 ((2627 + (3 * x3)) + 2))] h (fun r1 h1 => (0 ≤ x2 ∧ x2 < 64) ∧ (r1 = 0 ∨ r1 = 1) ∧ G l (D + 1) 0 0 mX12_meetsOne (zz ζ) 4 [aP 97, aI x1, aI (x2 + 1), aI (x3 + 1), aU] [] (hu h1 113 x2 r1) (qI (zz ζ) Q))) else (G l (D + 1) 0 0 mX12_meetsOne (zz ζ) 77 [aP 97, aI x1, aI x2, aI x3, aI (h 99 (2627 + (3 * x3)))] [] h (qI (zz ζ) Q)))) else ((0 ≤ (x2 - 1) ∧ (x2 - 1) < 64) ∧ (rg (h 113 (x2 - 1))) ∧ (if ¬ (h 113 (x2 - 1)) = 0 then (G l (D + 1) 0 0 mX12_meetsOne (zz ζ) 4 [aP 97, aI x1, aI x2, aI (x3 + 1), aU] [] (hu h 113 (x2 - 1) 0) (qI (zz ζ) Q)) else (G l (D + 1) 0 0 mX12_meetsOne (zz ζ) 4 [aP 97, aI x1, aI x2, aI (x3 + 1), aU] [] (hu h 113 (x2 - 1) 1) (qI (zz ζ) Q)))))))) : G l (D + 1) 0 0 mX12_meetsOne (zz ζ) 4 [aP 97, aI x1, aI x2, aI x3, aU] [] h (qI (zz ζ) Q) := by
  refine g_iload_n dX12_meetsOne_4 rfl ?_
  refine g_aload_n dX12_meetsOne_5 rfl ?_
  refine g_getR dX12_meetsOne_6 fl_X12_33 sh_97 (al_97 hn) (fun _ _ _ => rfl) rf_97_6 ?_
  refine g_bipush dX12_meetsOne_9 rfl ?_
  refine g_iald dX12_meetsOne_11 sh_99 (al_99 hn) (Nat.le_of_ble_eq_true rfl) (by decide) ?_
  obtain ⟨o1, w⟩ := w
  obtain ⟨o2, w⟩ := w
  refine g_cmp_ge (tgt := 201) dX12_meetsOne_12 rfl o1 o2 ?_
  refine ite_imp (fun w => ?_) (fun w => ?_) w
  · refine g_aload_n dX12_meetsOne_201 rfl ?_
    refine g_getR dX12_meetsOne_202 fl_X12_78 sh_97 (al_97 hn) (fun _ _ _ => rfl) rf_97_32 ?_
    refine g_iconst dX12_meetsOne_205 ?_
    refine g_zald dX12_meetsOne_206 sh_113 (al_113 hn) (Nat.le_of_ble_eq_true rfl) (by decide) ?_
    obtain ⟨o3, w⟩ := w
    exact g_retZ dX12_meetsOne_207 rfl o3 w
  · refine g_aload_n dX12_meetsOne_15 rfl ?_
    refine g_getR dX12_meetsOne_16 fl_X12_33 sh_97 (al_97 hn) (fun _ _ _ => rfl) rf_97_6 ?_
    refine g_sipush dX12_meetsOne_19 rfl ?_
    refine g_iconst dX12_meetsOne_22 ?_
    refine g_iload_n dX12_meetsOne_23 rfl ?_
    refine g_imul dX12_meetsOne_24 ?_
    refine g_iadd dX12_meetsOne_25 ?_
    obtain ⟨o4, w⟩ := w
    refine g_iald dX12_meetsOne_26 sh_99 (al_99 hn) (Nat.le_of_ble_eq_true rfl) o4 ?_
    refine g_istore (ls' := [aP 97, aI x1, aI x2, aI x3, aI (h 99 (2627 + (3 * x3)))]) dX12_meetsOne_27 (Nat.le_of_ble_eq_true rfl) rfl rfl ?_
    refine g_iload dX12_meetsOne_29 rfl ?_
    refine g_bipush dX12_meetsOne_31 rfl ?_
    obtain ⟨o5, w⟩ := w
    refine g_cmp_ne (tgt := 63) dX12_meetsOne_33 rfl o5 (by decide) ?_
    refine ite_imp (fun w => ?_) (fun w => ?_) w
    · refine g_iload dX12_meetsOne_63 rfl ?_
      refine g_bipush dX12_meetsOne_65 rfl ?_
      refine g_cmp_eq (tgt := 77) dX12_meetsOne_67 rfl o5 (by decide) ?_
      refine ite_imp (fun w => ?_) (fun w => ?_) w
      · exact g_sub (ls' := [aP 97, aI x1, aI x2, aI x3, aI (h 99 (2627 + (3 * x3)))]) ⟨Or.inr rfl, Or.inr rfl, Or.inr rfl, Or.inr rfl, Or.inr rfl, trivial⟩ w
      · refine g_iload dX12_meetsOne_70 rfl ?_
        refine g_bipush dX12_meetsOne_72 rfl ?_
        refine g_cmp_ne (tgt := 151) dX12_meetsOne_74 rfl o5 (by decide) ?_
        refine ite_imp (fun w => ?_) (fun w => ?_) w
        · refine g_aload_n dX12_meetsOne_151 rfl ?_
          refine g_getR dX12_meetsOne_152 fl_X12_78 sh_97 (al_97 hn) (fun _ _ _ => rfl) rf_97_32 ?_
          refine g_iload_n dX12_meetsOne_155 rfl ?_
          refine g_aload_n dX12_meetsOne_156 rfl ?_
          refine g_iload_n dX12_meetsOne_157 rfl ?_
          refine g_iload dX12_meetsOne_158 rfl ?_
          refine g_aload_n dX12_meetsOne_160 rfl ?_
          refine g_getR dX12_meetsOne_161 fl_X12_33 sh_97 (al_97 hn) (fun _ _ _ => rfl) rf_97_6 ?_
          refine g_sipush dX12_meetsOne_164 rfl ?_
          refine g_iconst dX12_meetsOne_167 ?_
          refine g_iload_n dX12_meetsOne_168 rfl ?_
          refine g_imul dX12_meetsOne_169 ?_
          refine g_iadd dX12_meetsOne_170 ?_
          refine g_iconst dX12_meetsOne_171 ?_
          refine g_iadd dX12_meetsOne_172 ?_
          obtain ⟨o6, w⟩ := w
          refine g_iald dX12_meetsOne_173 sh_99 (al_99 hn) (Nat.le_of_ble_eq_true rfl) o6 ?_
          refine g_aload_n dX12_meetsOne_174 rfl ?_
          refine g_getR dX12_meetsOne_175 fl_X12_33 sh_97 (al_97 hn) (fun _ _ _ => rfl) rf_97_6 ?_
          refine g_sipush dX12_meetsOne_178 rfl ?_
          refine g_iconst dX12_meetsOne_181 ?_
          refine g_iload_n dX12_meetsOne_182 rfl ?_
          refine g_imul dX12_meetsOne_183 ?_
          refine g_iadd dX12_meetsOne_184 ?_
          refine g_iconst dX12_meetsOne_185 ?_
          refine g_iadd dX12_meetsOne_186 ?_
          obtain ⟨o7, w⟩ := w
          refine g_iald dX12_meetsOne_187 sh_99 (al_99 hn) (Nat.le_of_ble_eq_true rfl) o7 ?_
          refine g_callVI (n := 4) (As := [aI x1, aI (h 99 (2627 + (3 * x3))), aI (h 99 ((2627 + (3 * x3)) + 1)), aI (h 99 ((2627 + (3 * x3)) + 2))]) (st := [aI x2, aP 113]) dX12_meetsOne_188 ml_X12_390 sh_97 rfl (al_97 hn) rfl rfl (Nat.le_of_ble_eq_true rfl) (RtI.mono w (fun r1 h1 w => ?_))
          obtain ⟨o8, w⟩ := w
          obtain ⟨o9, w⟩ := w
          refine g_zast dX12_meetsOne_191 sh_113 (al_113 hn) (Nat.le_of_ble_eq_true rfl) o8 o9 ?_
          refine g_iinc (ls' := [aP 97, aI x1, aI (x2 + 1), aI x3, aI (h 99 (2627 + (3 * x3)))]) dX12_meetsOne_192 rfl (Nat.le_of_ble_eq_true rfl) rfl rfl ?_
          refine g_iinc (ls' := [aP 97, aI x1, aI (x2 + 1), aI (x3 + 1), aI (h 99 (2627 + (3 * x3)))]) dX12_meetsOne_195 rfl (Nat.le_of_ble_eq_true rfl) rfl rfl ?_
          refine g_goto (tgt := 4) dX12_meetsOne_198 rfl ?_
          exact g_sub (ls' := [aP 97, aI x1, aI (x2 + 1), aI (x3 + 1), aU]) ⟨Or.inr rfl, Or.inr rfl, Or.inr rfl, Or.inr rfl, Or.inl rfl, trivial⟩ w
        · exact g_sub (ls' := [aP 97, aI x1, aI x2, aI x3, aI (h 99 (2627 + (3 * x3)))]) ⟨Or.inr rfl, Or.inr rfl, Or.inr rfl, Or.inr rfl, Or.inr rfl, trivial⟩ w
    · refine g_aload_n dX12_meetsOne_36 rfl ?_
      refine g_getR dX12_meetsOne_37 fl_X12_78 sh_97 (al_97 hn) (fun _ _ _ => rfl) rf_97_32 ?_
      refine g_iload_n dX12_meetsOne_40 rfl ?_
      refine g_iconst dX12_meetsOne_41 ?_
      refine g_isub dX12_meetsOne_42 ?_
      refine g_aload_n dX12_meetsOne_43 rfl ?_
      refine g_getR dX12_meetsOne_44 fl_X12_78 sh_97 (al_97 hn) (fun _ _ _ => rfl) rf_97_32 ?_
      refine g_iload_n dX12_meetsOne_47 rfl ?_
      refine g_iconst dX12_meetsOne_48 ?_
      refine g_isub dX12_meetsOne_49 ?_
      obtain ⟨o10, w⟩ := w
      refine g_zald dX12_meetsOne_50 sh_113 (al_113 hn) (Nat.le_of_ble_eq_true rfl) o10 ?_
      obtain ⟨o11, w⟩ := w
      refine g_if_ne (tgt := 58) dX12_meetsOne_51 rfl o11 ?_
      refine ite_imp (fun w => ?_) (fun w => ?_) w
      · refine g_iconst dX12_meetsOne_58 ?_
        refine g_zast dX12_meetsOne_59 sh_113 (al_113 hn) (Nat.le_of_ble_eq_true rfl) o10 (Or.inl rfl) ?_
        refine g_goto (tgt := 195) dX12_meetsOne_60 rfl ?_
        refine g_iinc (ls' := [aP 97, aI x1, aI x2, aI (x3 + 1), aI (h 99 (2627 + (3 * x3)))]) dX12_meetsOne_195 rfl (Nat.le_of_ble_eq_true rfl) rfl rfl ?_
        refine g_goto (tgt := 4) dX12_meetsOne_198 rfl ?_
        exact g_sub (ls' := [aP 97, aI x1, aI x2, aI (x3 + 1), aU]) ⟨Or.inr rfl, Or.inr rfl, Or.inr rfl, Or.inr rfl, Or.inl rfl, trivial⟩ w
      · refine g_iconst dX12_meetsOne_54 ?_
        refine g_goto (tgt := 59) dX12_meetsOne_55 rfl ?_
        refine g_zast dX12_meetsOne_59 sh_113 (al_113 hn) (Nat.le_of_ble_eq_true rfl) o10 (Or.inr rfl) ?_
        refine g_goto (tgt := 195) dX12_meetsOne_60 rfl ?_
        refine g_iinc (ls' := [aP 97, aI x1, aI x2, aI (x3 + 1), aI (h 99 (2627 + (3 * x3)))]) dX12_meetsOne_195 rfl (Nat.le_of_ble_eq_true rfl) rfl rfl ?_
        refine g_goto (tgt := 4) dX12_meetsOne_198 rfl ?_
        exact g_sub (ls' := [aP 97, aI x1, aI x2, aI (x3 + 1), aU]) ⟨Or.inr rfl, Or.inr rfl, Or.inr rfl, Or.inr rfl, Or.inl rfl, trivial⟩ w
theorem b_X12_meetsOne_77 {l : Launch} {D : Nat} {ζ : ZP} {h : HI} {Q : Int → HI → Prop} {x1 x2 x3 x4 : Int} (hn : 144 ≤ ζ.2.2.2.2) (w : (rg x4) ∧ (if ¬ x4 = 8 then ((0 ≤ ((x2 + (-1)) - 1) ∧ ((x2 + (-1)) - 1) < 64) ∧ (rg (h 113 ((x2 + (-1)) - 1))) ∧ (if ¬ (h 113 ((x2 + (-1)) - 1)) = 0 then (G l (D + 1) 0 0 mX12_meetsOne (zz ζ) 4 [aP 97, aI x1, aI (x2 + (-1)), aI (x3 + 1), aU] [] (hu h 113 ((x2 + (-1)) - 1) 1) (qI (zz ζ) Q)) else ((0 ≤ (x2 + (-1)) ∧ (x2 + (-1)) < 64) ∧ (rg (h 113 (x2 + (-1)))) ∧ (if (h 113 (x2 + (-1))) = 0 then (G l (D + 1) 0 0 mX12_meetsOne (zz ζ) 4 [aP 97, aI x1, aI (x2 + (-1)), aI (x3 + 1), aU] [] (hu h 113 ((x2 + (-1)) - 1) 0) (qI (zz ζ) Q)) else (G l (D + 1) 0 0 mX12_meetsOne (zz ζ) 4 [aP 97, aI x1, aI (x2 + (-1)), aI (x3 + 1), aU] [] (hu h 113 ((x2 + (-1)) - 1) 1) (qI (zz ζ) Q)))))) else ((0 ≤ ((x2 + (-1)) - 1) ∧ ((x2 + (-1)) - 1) < 64) ∧ (rg (h 113 ((x2 + (-1)) - 1))) ∧ (if (h 113 ((x2 + (-1)) - 1)) = 0 then (G l (D + 1) 0 0 mX12_meetsOne (zz ζ) 4 [aP 97, aI x1, aI (x2 + (-1)), aI (x3 + 1), aU] [] (hu h 113 ((x2 + (-1)) - 1) 0) (qI (zz ζ) Q)) else ((0 ≤ (x2 + (-1)) ∧ (x2 + (-1)) < 64) ∧ (rg (h 113 (x2 + (-1)))) ∧ (if (h 113 (x2 + (-1))) = 0 then (G l (D + 1) 0 0 mX12_meetsOne (zz ζ) 4 [aP 97, aI x1, aI (x2 + (-1)), aI (x3 + 1), aU] [] (hu h 113 ((x2 + (-1)) - 1) 0) (qI (zz ζ) Q)) else (G l (D + 1) 0 0 mX12_meetsOne (zz ζ) 4 [aP 97, aI x1, aI (x2 + (-1)), aI (x3 + 1), aU] [] (hu h 113 ((x2 + (-1)) - 1) 1) (qI (zz ζ) Q)))))))) : G l (D + 1) 0 0 mX12_meetsOne (zz ζ) 77 [aP 97, aI x1, aI x2, aI x3, aI x4] [] h (qI (zz ζ) Q) := by
  refine g_iinc (ls' := [aP 97, aI x1, aI (x2 + (-1)), aI x3, aI x4]) dX12_meetsOne_77 rfl (Nat.le_of_ble_eq_true rfl) rfl rfl ?_
  refine g_aload_n dX12_meetsOne_80 rfl ?_
  refine g_getR dX12_meetsOne_81 fl_X12_78 sh_97 (al_97 hn) (fun _ _ _ => rfl) rf_97_32 ?_
  refine g_iload_n dX12_meetsOne_84 rfl ?_
  refine g_iconst dX12_meetsOne_85 ?_
  refine g_isub dX12_meetsOne_86 ?_
  refine g_iload dX12_meetsOne_87 rfl ?_
  refine g_bipush dX12_meetsOne_89 rfl ?_
  obtain ⟨o1, w⟩ := w
  refine g_cmp_ne (tgt := 122) dX12_meetsOne_91 rfl o1 (by decide) ?_
  refine ite_imp (fun w => ?_) (fun w => ?_) w
  · refine g_aload_n dX12_meetsOne_122 rfl ?_
    refine g_getR dX12_meetsOne_123 fl_X12_78 sh_97 (al_97 hn) (fun _ _ _ => rfl) rf_97_32 ?_
    refine g_iload_n dX12_meetsOne_126 rfl ?_
    refine g_iconst dX12_meetsOne_127 ?_
    refine g_isub dX12_meetsOne_128 ?_
    obtain ⟨o2, w⟩ := w
    refine g_zald dX12_meetsOne_129 sh_113 (al_113 hn) (Nat.le_of_ble_eq_true rfl) o2 ?_
    obtain ⟨o3, w⟩ := w
    refine g_if_ne (tgt := 142) dX12_meetsOne_130 rfl o3 ?_
    refine ite_imp (fun w => ?_) (fun w => ?_) w
    · refine g_iconst dX12_meetsOne_142 ?_
      refine g_goto (tgt := 147) dX12_meetsOne_143 rfl ?_
      refine g_zast dX12_meetsOne_147 sh_113 (al_113 hn) (Nat.le_of_ble_eq_true rfl) o2 (Or.inr rfl) ?_
      refine g_goto (tgt := 195) dX12_meetsOne_148 rfl ?_
      refine g_iinc (ls' := [aP 97, aI x1, aI (x2 + (-1)), aI (x3 + 1), aI x4]) dX12_meetsOne_195 rfl (Nat.le_of_ble_eq_true rfl) rfl rfl ?_
      refine g_goto (tgt := 4) dX12_meetsOne_198 rfl ?_
      exact g_sub (ls' := [aP 97, aI x1, aI (x2 + (-1)), aI (x3 + 1), aU]) ⟨Or.inr rfl, Or.inr rfl, Or.inr rfl, Or.inr rfl, Or.inl rfl, trivial⟩ w
    · refine g_aload_n dX12_meetsOne_133 rfl ?_
      refine g_getR dX12_meetsOne_134 fl_X12_78 sh_97 (al_97 hn) (fun _ _ _ => rfl) rf_97_32 ?_
      refine g_iload_n dX12_meetsOne_137 rfl ?_
      obtain ⟨o4, w⟩ := w
      refine g_zald dX12_meetsOne_138 sh_113 (al_113 hn) (Nat.le_of_ble_eq_true rfl) o4 ?_
      obtain ⟨o5, w⟩ := w
      refine g_if_eq (tgt := 146) dX12_meetsOne_139 rfl o5 ?_
      refine ite_imp (fun w => ?_) (fun w => ?_) w
      · refine g_iconst dX12_meetsOne_146 ?_
        refine g_zast dX12_meetsOne_147 sh_113 (al_113 hn) (Nat.le_of_ble_eq_true rfl) o2 (Or.inl rfl) ?_
        refine g_goto (tgt := 195) dX12_meetsOne_148 rfl ?_
        refine g_iinc (ls' := [aP 97, aI x1, aI (x2 + (-1)), aI (x3 + 1), aI x4]) dX12_meetsOne_195 rfl (Nat.le_of_ble_eq_true rfl) rfl rfl ?_
        refine g_goto (tgt := 4) dX12_meetsOne_198 rfl ?_
        exact g_sub (ls' := [aP 97, aI x1, aI (x2 + (-1)), aI (x3 + 1), aU]) ⟨Or.inr rfl, Or.inr rfl, Or.inr rfl, Or.inr rfl, Or.inl rfl, trivial⟩ w
      · refine g_iconst dX12_meetsOne_142 ?_
        refine g_goto (tgt := 147) dX12_meetsOne_143 rfl ?_
        refine g_zast dX12_meetsOne_147 sh_113 (al_113 hn) (Nat.le_of_ble_eq_true rfl) o2 (Or.inr rfl) ?_
        refine g_goto (tgt := 195) dX12_meetsOne_148 rfl ?_
        refine g_iinc (ls' := [aP 97, aI x1, aI (x2 + (-1)), aI (x3 + 1), aI x4]) dX12_meetsOne_195 rfl (Nat.le_of_ble_eq_true rfl) rfl rfl ?_
        refine g_goto (tgt := 4) dX12_meetsOne_198 rfl ?_
        exact g_sub (ls' := [aP 97, aI x1, aI (x2 + (-1)), aI (x3 + 1), aU]) ⟨Or.inr rfl, Or.inr rfl, Or.inr rfl, Or.inr rfl, Or.inl rfl, trivial⟩ w
  · refine g_aload_n dX12_meetsOne_94 rfl ?_
    refine g_getR dX12_meetsOne_95 fl_X12_78 sh_97 (al_97 hn) (fun _ _ _ => rfl) rf_97_32 ?_
    refine g_iload_n dX12_meetsOne_98 rfl ?_
    refine g_iconst dX12_meetsOne_99 ?_
    refine g_isub dX12_meetsOne_100 ?_
    obtain ⟨o6, w⟩ := w
    refine g_zald dX12_meetsOne_101 sh_113 (al_113 hn) (Nat.le_of_ble_eq_true rfl) o6 ?_
    obtain ⟨o7, w⟩ := w
    refine g_if_eq (tgt := 118) dX12_meetsOne_102 rfl o7 ?_
    refine ite_imp (fun w => ?_) (fun w => ?_) w
    · refine g_iconst dX12_meetsOne_118 ?_
      refine g_goto (tgt := 147) dX12_meetsOne_119 rfl ?_
      refine g_zast dX12_meetsOne_147 sh_113 (al_113 hn) (Nat.le_of_ble_eq_true rfl) o6 (Or.inl rfl) ?_
      refine g_goto (tgt := 195) dX12_meetsOne_148 rfl ?_
      refine g_iinc (ls' := [aP 97, aI x1, aI (x2 + (-1)), aI (x3 + 1), aI x4]) dX12_meetsOne_195 rfl (Nat.le_of_ble_eq_true rfl) rfl rfl ?_
      refine g_goto (tgt := 4) dX12_meetsOne_198 rfl ?_
      exact g_sub (ls' := [aP 97, aI x1, aI (x2 + (-1)), aI (x3 + 1), aU]) ⟨Or.inr rfl, Or.inr rfl, Or.inr rfl, Or.inr rfl, Or.inl rfl, trivial⟩ w
    · refine g_aload_n dX12_meetsOne_105 rfl ?_
      refine g_getR dX12_meetsOne_106 fl_X12_78 sh_97 (al_97 hn) (fun _ _ _ => rfl) rf_97_32 ?_
      refine g_iload_n dX12_meetsOne_109 rfl ?_
      obtain ⟨o8, w⟩ := w
      refine g_zald dX12_meetsOne_110 sh_113 (al_113 hn) (Nat.le_of_ble_eq_true rfl) o8 ?_
      obtain ⟨o9, w⟩ := w
      refine g_if_eq (tgt := 118) dX12_meetsOne_111 rfl o9 ?_
      refine ite_imp (fun w => ?_) (fun w => ?_) w
      · refine g_iconst dX12_meetsOne_118 ?_
        refine g_goto (tgt := 147) dX12_meetsOne_119 rfl ?_
        refine g_zast dX12_meetsOne_147 sh_113 (al_113 hn) (Nat.le_of_ble_eq_true rfl) o6 (Or.inl rfl) ?_
        refine g_goto (tgt := 195) dX12_meetsOne_148 rfl ?_
        refine g_iinc (ls' := [aP 97, aI x1, aI (x2 + (-1)), aI (x3 + 1), aI x4]) dX12_meetsOne_195 rfl (Nat.le_of_ble_eq_true rfl) rfl rfl ?_
        refine g_goto (tgt := 4) dX12_meetsOne_198 rfl ?_
        exact g_sub (ls' := [aP 97, aI x1, aI (x2 + (-1)), aI (x3 + 1), aU]) ⟨Or.inr rfl, Or.inr rfl, Or.inr rfl, Or.inr rfl, Or.inl rfl, trivial⟩ w
      · refine g_iconst dX12_meetsOne_114 ?_
        refine g_goto (tgt := 147) dX12_meetsOne_115 rfl ?_
        refine g_zast dX12_meetsOne_147 sh_113 (al_113 hn) (Nat.le_of_ble_eq_true rfl) o6 (Or.inr rfl) ?_
        refine g_goto (tgt := 195) dX12_meetsOne_148 rfl ?_
        refine g_iinc (ls' := [aP 97, aI x1, aI (x2 + (-1)), aI (x3 + 1), aI x4]) dX12_meetsOne_195 rfl (Nat.le_of_ble_eq_true rfl) rfl rfl ?_
        refine g_goto (tgt := 4) dX12_meetsOne_198 rfl ?_
        exact g_sub (ls' := [aP 97, aI x1, aI (x2 + (-1)), aI (x3 + 1), aU]) ⟨Or.inr rfl, Or.inr rfl, Or.inr rfl, Or.inr rfl, Or.inl rfl, trivial⟩ w
theorem e_X12_meetsOne {l : Launch} {D : Nat} {ζ : ZP} {h : HI} {Q : Int → HI → Prop} {x1 : Int} (hn : 144 ≤ ζ.2.2.2.2) (w : G l (D + 1) 0 0 mX12_meetsOne (zz ζ) 4 [aP 97, aI x1, aI 0, aI 0, aU] [] h (qI (zz ζ) Q)) : RtI l (D + 1) mX12_meetsOne (zz ζ) [aP 97, aI x1] h Q := by
  refine RtI.of 3 pn_X12 [aP 97, aI x1, aU, aU, aU] rfl rfl ?_
  refine g_iconst dX12_meetsOne_0 ?_
  refine g_istore_n (ls' := [aP 97, aI x1, aI 0, aU, aU]) dX12_meetsOne_1 (Nat.le_of_ble_eq_true rfl) rfl rfl ?_
  refine g_iconst dX12_meetsOne_2 ?_
  refine g_istore_n (ls' := [aP 97, aI x1, aI 0, aI 0, aU]) dX12_meetsOne_3 (Nat.le_of_ble_eq_true rfl) rfl rfl ?_
  exact g_sub (ls' := [aP 97, aI x1, aI 0, aI 0, aU]) ⟨Or.inr rfl, Or.inr rfl, Or.inr rfl, Or.inr rfl, Or.inl rfl, trivial⟩ w
theorem b_X12_so_78 {l : Launch} {D : Nat} {ζ : ZP} {h : HI} {Q : Int → HI → Prop} {x1 x2 x3 x4 : Int} (hn : 144 ≤ ζ.2.2.2.2) (w : (rg x2) ∧ (if ¬ x2 = 3 then (if ¬ x2 = 4 then (if ¬ x2 = 5 then ((rg x3) ∧ (if ¬ x3 = 60 then (if ¬ x3 = 61 then ((rg x1) ∧ (rg x4) ∧ (if x1 ≤ x4 then (Q 0 h) else (Q 1 h))) else ((rg x1) ∧ (rg x4) ∧ (if ¬ x1 = x4 then (Q 0 h) else (Q 1 h)))) else ((rg x1) ∧ (rg x4) ∧ (if x4 ≤ x1 then (Q 0 h) else (Q 1 h))))) else ((0 ≤ x1 ∧ x1 < 60) ∧ (rg x3) ∧ (if ¬ x3 = 60 then (if ¬ x3 = 61 then ((rg (h 108 x1)) ∧ (rg x4) ∧ (if (h 108 x1) ≤ x4 then (Q 0 h) else (Q 1 h))) else ((rg (h 108 x1)) ∧ (rg x4) ∧ (if ¬ (h 108 x1) = x4 then (Q 0 h) else (Q 1 h)))) else ((rg (h 108 x1)) ∧ (rg x4) ∧ (if x4 ≤ (h 108 x1) then (Q 0 h) else (Q 1 h)))))) else ((0 ≤ x1 ∧ x1 < 60) ∧ (rg x3) ∧ (if ¬ x3 = 60 then (if ¬ x3 = 61 then ((rg (h 107 x1)) ∧ (rg x4) ∧ (if (h 107 x1) ≤ x4 then (Q 0 h) else (Q 1 h))) else ((rg (h 107 x1)) ∧ (rg x4) ∧ (if ¬ (h 107 x1) = x4 then (Q 0 h) else (Q 1 h)))) else ((rg (h 107 x1)) ∧ (rg x4) ∧ (if x4 ≤ (h 107 x1) then (Q 0 h) else (Q 1 h)))))) else ((0 ≤ x1 ∧ x1 < 60) ∧ (rg x3) ∧ (if ¬ x3 = 60 then (if ¬ x3 = 61 then ((rg (h 106 x1)) ∧ (rg x4) ∧ (if (h 106 x1) ≤ x4 then (Q 0 h) else (Q 1 h))) else ((rg (h 106 x1)) ∧ (rg x4) ∧ (if ¬ (h 106 x1) = x4 then (Q 0 h) else (Q 1 h)))) else ((rg (h 106 x1)) ∧ (rg x4) ∧ (if x4 ≤ (h 106 x1) then (Q 0 h) else (Q 1 h))))))) : G l (D + 1) 0 0 mX12_so (zz ζ) 78 [aP 97, aI x1, aI x2, aI x3, aI x4, aU] [] h (qI (zz ζ) Q) := by
  refine g_iload_n dX12_so_78 rfl ?_
  refine g_iconst dX12_so_79 ?_
  obtain ⟨o1, w⟩ := w
  refine g_cmp_ne (tgt := 92) dX12_so_80 rfl o1 (by decide) ?_
  refine ite_imp (fun w => ?_) (fun w => ?_) w
  · refine g_iload_n dX12_so_92 rfl ?_
    refine g_iconst dX12_so_93 ?_
    refine g_cmp_ne (tgt := 106) dX12_so_94 rfl o1 (by decide) ?_
    refine ite_imp (fun w => ?_) (fun w => ?_) w
    · refine g_iload_n dX12_so_106 rfl ?_
      refine g_iconst dX12_so_107 ?_
      refine g_cmp_ne (tgt := 120) dX12_so_108 rfl o1 (by decide) ?_
      refine ite_imp (fun w => ?_) (fun w => ?_) w
      · refine g_iload_n dX12_so_120 rfl ?_
        refine g_istore (ls' := [aP 97, aI x1, aI x2, aI x3, aI x4, aI x1]) dX12_so_121 (Nat.le_of_ble_eq_true rfl) rfl rfl ?_
        refine g_iload_n dX12_so_123 rfl ?_
        refine g_bipush dX12_so_124 rfl ?_
        obtain ⟨o2, w⟩ := w
        refine g_cmp_ne (tgt := 144) dX12_so_126 rfl o2 (by decide) ?_
        refine ite_imp (fun w => ?_) (fun w => ?_) w
        · refine g_iload_n dX12_so_144 rfl ?_
          refine g_bipush dX12_so_145 rfl ?_
          refine g_cmp_ne (tgt := 165) dX12_so_147 rfl o2 (by decide) ?_
          refine ite_imp (fun w => ?_) (fun w => ?_) w
          · refine g_iload dX12_so_165 rfl ?_
            refine g_iload dX12_so_167 rfl ?_
            obtain ⟨o3, w⟩ := w
            obtain ⟨o4, w⟩ := w
            refine g_cmp_le (tgt := 176) dX12_so_169 rfl o3 o4 ?_
            refine ite_imp (fun w => ?_) (fun w => ?_) w
            · refine g_iconst dX12_so_176 ?_
              exact g_retZ dX12_so_177 rfl (Or.inl rfl) w
            · refine g_iconst dX12_so_172 ?_
              refine g_goto (tgt := 177) dX12_so_173 rfl ?_
              exact g_retZ dX12_so_177 rfl (Or.inr rfl) w
          · refine g_iload dX12_so_150 rfl ?_
            refine g_iload dX12_so_152 rfl ?_
            obtain ⟨o5, w⟩ := w
            obtain ⟨o6, w⟩ := w
            refine g_cmp_ne (tgt := 161) dX12_so_154 rfl o5 o6 ?_
            refine ite_imp (fun w => ?_) (fun w => ?_) w
            · refine g_iconst dX12_so_161 ?_
              refine g_goto (tgt := 177) dX12_so_162 rfl ?_
              exact g_retZ dX12_so_177 rfl (Or.inl rfl) w
            · refine g_iconst dX12_so_157 ?_
              refine g_goto (tgt := 177) dX12_so_158 rfl ?_
              exact g_retZ dX12_so_177 rfl (Or.inr rfl) w
        · refine g_iload dX12_so_129 rfl ?_
          refine g_iload dX12_so_131 rfl ?_
          obtain ⟨o7, w⟩ := w
          obtain ⟨o8, w⟩ := w
          refine g_cmp_ge (tgt := 140) dX12_so_133 rfl o7 o8 ?_
          refine ite_imp (fun w => ?_) (fun w => ?_) w
          · refine g_iconst dX12_so_140 ?_
            refine g_goto (tgt := 177) dX12_so_141 rfl ?_
            exact g_retZ dX12_so_177 rfl (Or.inl rfl) w
          · refine g_iconst dX12_so_136 ?_
            refine g_goto (tgt := 177) dX12_so_137 rfl ?_
            exact g_retZ dX12_so_177 rfl (Or.inr rfl) w
      · refine g_aload_n dX12_so_111 rfl ?_
        refine g_getR dX12_so_112 fl_X12_63 sh_97 (al_97 hn) (fun _ _ _ => rfl) rf_97_25 ?_
        refine g_iload_n dX12_so_115 rfl ?_
        obtain ⟨o9, w⟩ := w
        refine g_iald dX12_so_116 sh_108 (al_108 hn) (Nat.le_of_ble_eq_true rfl) o9 ?_
        refine g_goto (tgt := 121) dX12_so_117 rfl ?_
        refine g_istore (ls' := [aP 97, aI x1, aI x2, aI x3, aI x4, aI (h 108 x1)]) dX12_so_121 (Nat.le_of_ble_eq_true rfl) rfl rfl ?_
        refine g_iload_n dX12_so_123 rfl ?_
        refine g_bipush dX12_so_124 rfl ?_
        obtain ⟨o10, w⟩ := w
        refine g_cmp_ne (tgt := 144) dX12_so_126 rfl o10 (by decide) ?_
        refine ite_imp (fun w => ?_) (fun w => ?_) w
        · refine g_iload_n dX12_so_144 rfl ?_
          refine g_bipush dX12_so_145 rfl ?_
          refine g_cmp_ne (tgt := 165) dX12_so_147 rfl o10 (by decide) ?_
          refine ite_imp (fun w => ?_) (fun w => ?_) w
          · refine g_iload dX12_so_165 rfl ?_
            refine g_iload dX12_so_167 rfl ?_
            obtain ⟨o11, w⟩ := w
            obtain ⟨o12, w⟩ := w
            refine g_cmp_le (tgt := 176) dX12_so_169 rfl o11 o12 ?_
            refine ite_imp (fun w => ?_) (fun w => ?_) w
            · refine g_iconst dX12_so_176 ?_
              exact g_retZ dX12_so_177 rfl (Or.inl rfl) w
            · refine g_iconst dX12_so_172 ?_
              refine g_goto (tgt := 177) dX12_so_173 rfl ?_
              exact g_retZ dX12_so_177 rfl (Or.inr rfl) w
          · refine g_iload dX12_so_150 rfl ?_
            refine g_iload dX12_so_152 rfl ?_
            obtain ⟨o13, w⟩ := w
            obtain ⟨o14, w⟩ := w
            refine g_cmp_ne (tgt := 161) dX12_so_154 rfl o13 o14 ?_
            refine ite_imp (fun w => ?_) (fun w => ?_) w
            · refine g_iconst dX12_so_161 ?_
              refine g_goto (tgt := 177) dX12_so_162 rfl ?_
              exact g_retZ dX12_so_177 rfl (Or.inl rfl) w
            · refine g_iconst dX12_so_157 ?_
              refine g_goto (tgt := 177) dX12_so_158 rfl ?_
              exact g_retZ dX12_so_177 rfl (Or.inr rfl) w
        · refine g_iload dX12_so_129 rfl ?_
          refine g_iload dX12_so_131 rfl ?_
          obtain ⟨o15, w⟩ := w
          obtain ⟨o16, w⟩ := w
          refine g_cmp_ge (tgt := 140) dX12_so_133 rfl o15 o16 ?_
          refine ite_imp (fun w => ?_) (fun w => ?_) w
          · refine g_iconst dX12_so_140 ?_
            refine g_goto (tgt := 177) dX12_so_141 rfl ?_
            exact g_retZ dX12_so_177 rfl (Or.inl rfl) w
          · refine g_iconst dX12_so_136 ?_
            refine g_goto (tgt := 177) dX12_so_137 rfl ?_
            exact g_retZ dX12_so_177 rfl (Or.inr rfl) w
    · refine g_aload_n dX12_so_97 rfl ?_
      refine g_getR dX12_so_98 fl_X12_60 sh_97 (al_97 hn) (fun _ _ _ => rfl) rf_97_24 ?_
      refine g_iload_n dX12_so_101 rfl ?_
      obtain ⟨o17, w⟩ := w
      refine g_iald dX12_so_102 sh_107 (al_107 hn) (Nat.le_of_ble_eq_true rfl) o17 ?_
      refine g_goto (tgt := 121) dX12_so_103 rfl ?_
      refine g_istore (ls' := [aP 97, aI x1, aI x2, aI x3, aI x4, aI (h 107 x1)]) dX12_so_121 (Nat.le_of_ble_eq_true rfl) rfl rfl ?_
      refine g_iload_n dX12_so_123 rfl ?_
      refine g_bipush dX12_so_124 rfl ?_
      obtain ⟨o18, w⟩ := w
      refine g_cmp_ne (tgt := 144) dX12_so_126 rfl o18 (by decide) ?_
      refine ite_imp (fun w => ?_) (fun w => ?_) w
      · refine g_iload_n dX12_so_144 rfl ?_
        refine g_bipush dX12_so_145 rfl ?_
        refine g_cmp_ne (tgt := 165) dX12_so_147 rfl o18 (by decide) ?_
        refine ite_imp (fun w => ?_) (fun w => ?_) w
        · refine g_iload dX12_so_165 rfl ?_
          refine g_iload dX12_so_167 rfl ?_
          obtain ⟨o19, w⟩ := w
          obtain ⟨o20, w⟩ := w
          refine g_cmp_le (tgt := 176) dX12_so_169 rfl o19 o20 ?_
          refine ite_imp (fun w => ?_) (fun w => ?_) w
          · refine g_iconst dX12_so_176 ?_
            exact g_retZ dX12_so_177 rfl (Or.inl rfl) w
          · refine g_iconst dX12_so_172 ?_
            refine g_goto (tgt := 177) dX12_so_173 rfl ?_
            exact g_retZ dX12_so_177 rfl (Or.inr rfl) w
        · refine g_iload dX12_so_150 rfl ?_
          refine g_iload dX12_so_152 rfl ?_
          obtain ⟨o21, w⟩ := w
          obtain ⟨o22, w⟩ := w
          refine g_cmp_ne (tgt := 161) dX12_so_154 rfl o21 o22 ?_
          refine ite_imp (fun w => ?_) (fun w => ?_) w
          · refine g_iconst dX12_so_161 ?_
            refine g_goto (tgt := 177) dX12_so_162 rfl ?_
            exact g_retZ dX12_so_177 rfl (Or.inl rfl) w
          · refine g_iconst dX12_so_157 ?_
            refine g_goto (tgt := 177) dX12_so_158 rfl ?_
            exact g_retZ dX12_so_177 rfl (Or.inr rfl) w
      · refine g_iload dX12_so_129 rfl ?_
        refine g_iload dX12_so_131 rfl ?_
        obtain ⟨o23, w⟩ := w
        obtain ⟨o24, w⟩ := w
        refine g_cmp_ge (tgt := 140) dX12_so_133 rfl o23 o24 ?_
        refine ite_imp (fun w => ?_) (fun w => ?_) w
        · refine g_iconst dX12_so_140 ?_
          refine g_goto (tgt := 177) dX12_so_141 rfl ?_
          exact g_retZ dX12_so_177 rfl (Or.inl rfl) w
        · refine g_iconst dX12_so_136 ?_
          refine g_goto (tgt := 177) dX12_so_137 rfl ?_
          exact g_retZ dX12_so_177 rfl (Or.inr rfl) w
  · refine g_aload_n dX12_so_83 rfl ?_
    refine g_getR dX12_so_84 fl_X12_57 sh_97 (al_97 hn) (fun _ _ _ => rfl) rf_97_23 ?_
    refine g_iload_n dX12_so_87 rfl ?_
    obtain ⟨o25, w⟩ := w
    refine g_iald dX12_so_88 sh_106 (al_106 hn) (Nat.le_of_ble_eq_true rfl) o25 ?_
    refine g_goto (tgt := 121) dX12_so_89 rfl ?_
    refine g_istore (ls' := [aP 97, aI x1, aI x2, aI x3, aI x4, aI (h 106 x1)]) dX12_so_121 (Nat.le_of_ble_eq_true rfl) rfl rfl ?_
    refine g_iload_n dX12_so_123 rfl ?_
    refine g_bipush dX12_so_124 rfl ?_
    obtain ⟨o26, w⟩ := w
    refine g_cmp_ne (tgt := 144) dX12_so_126 rfl o26 (by decide) ?_
    refine ite_imp (fun w => ?_) (fun w => ?_) w
    · refine g_iload_n dX12_so_144 rfl ?_
      refine g_bipush dX12_so_145 rfl ?_
      refine g_cmp_ne (tgt := 165) dX12_so_147 rfl o26 (by decide) ?_
      refine ite_imp (fun w => ?_) (fun w => ?_) w
      · refine g_iload dX12_so_165 rfl ?_
        refine g_iload dX12_so_167 rfl ?_
        obtain ⟨o27, w⟩ := w
        obtain ⟨o28, w⟩ := w
        refine g_cmp_le (tgt := 176) dX12_so_169 rfl o27 o28 ?_
        refine ite_imp (fun w => ?_) (fun w => ?_) w
        · refine g_iconst dX12_so_176 ?_
          exact g_retZ dX12_so_177 rfl (Or.inl rfl) w
        · refine g_iconst dX12_so_172 ?_
          refine g_goto (tgt := 177) dX12_so_173 rfl ?_
          exact g_retZ dX12_so_177 rfl (Or.inr rfl) w
      · refine g_iload dX12_so_150 rfl ?_
        refine g_iload dX12_so_152 rfl ?_
        obtain ⟨o29, w⟩ := w
        obtain ⟨o30, w⟩ := w
        refine g_cmp_ne (tgt := 161) dX12_so_154 rfl o29 o30 ?_
        refine ite_imp (fun w => ?_) (fun w => ?_) w
        · refine g_iconst dX12_so_161 ?_
          refine g_goto (tgt := 177) dX12_so_162 rfl ?_
          exact g_retZ dX12_so_177 rfl (Or.inl rfl) w
        · refine g_iconst dX12_so_157 ?_
          refine g_goto (tgt := 177) dX12_so_158 rfl ?_
          exact g_retZ dX12_so_177 rfl (Or.inr rfl) w
    · refine g_iload dX12_so_129 rfl ?_
      refine g_iload dX12_so_131 rfl ?_
      obtain ⟨o31, w⟩ := w
      obtain ⟨o32, w⟩ := w
      refine g_cmp_ge (tgt := 140) dX12_so_133 rfl o31 o32 ?_
      refine ite_imp (fun w => ?_) (fun w => ?_) w
      · refine g_iconst dX12_so_140 ?_
        refine g_goto (tgt := 177) dX12_so_141 rfl ?_
        exact g_retZ dX12_so_177 rfl (Or.inl rfl) w
      · refine g_iconst dX12_so_136 ?_
        refine g_goto (tgt := 177) dX12_so_137 rfl ?_
        exact g_retZ dX12_so_177 rfl (Or.inr rfl) w
theorem e_X12_so {l : Launch} {D : Nat} {ζ : ZP} {h : HI} {Q : Int → HI → Prop} {x1 x2 x3 x4 : Int} (hn : 144 ≤ ζ.2.2.2.2) (w : (rg x2) ∧ (if ¬ x2 = 0 then (if ¬ x2 = 1 then (if ¬ x2 = 2 then (if x2 = 6 then (G l (D + 1) 0 0 mX12_so (zz ζ) 78 [aP 97, aI x1, aI x2, aI x3, aI x4, aU] [] h (qI (zz ζ) Q)) else ((0 ≤ x1 ∧ x1 < 60) ∧ (rg (h 109 x1)) ∧ (if ¬ (h 109 x1) = 0 then (G l (D + 1) 0 0 mX12_so (zz ζ) 78 [aP 97, aI x1, aI x2, aI x3, aI x4, aU] [] h (qI (zz ζ) Q)) else (Q 0 h)))) else ((0 ≤ (17 + x1) ∧ (17 + x1) < 2819) ∧ (rg (h 99 (17 + x1))) ∧ (rg x3) ∧ (if ¬ (h 99 (17 + x1)) = x3 then (Q 0 h) else (Q 1 h)))) else (RtI l D mX12_packOf (zz ζ) [aP 97, aI x1] h (fun r1 h1 => (rg r1) ∧ (if r1 < 0 then (Q 0 h1) else (Q 1 h1))))) else (RtI l D mX12_liesOf (zz ζ) [aP 97, aI x1] h (fun r2 h2 => (rg r2) ∧ (if r2 = 0 then (Q 0 h2) else (Q 1 h2)))))) : RtI l (D + 1) mX12_so (zz ζ) [aP 97, aI x1, aI x2, aI x3, aI x4] h Q := by
  refine RtI.of 1 pn_X12 [aP 97, aI x1, aI x2, aI x3, aI x4, aU] rfl rfl ?_
  refine g_iload_n dX12_so_0 rfl ?_
  obtain ⟨o1, w⟩ := w
  refine g_if_ne (tgt := 18) dX12_so_1 rfl o1 ?_
  refine ite_imp (fun w => ?_) (fun w => ?_) w
  · refine g_iload_n dX12_so_18 rfl ?_
    refine g_iconst dX12_so_19 ?_
    refine g_cmp_ne (tgt := 37) dX12_so_20 rfl o1 (by decide) ?_
    refine ite_imp (fun w => ?_) (fun w => ?_) w
    · refine g_iload_n dX12_so_37 rfl ?_
      refine g_iconst dX12_so_38 ?_
      refine g_cmp_ne (tgt := 61) dX12_so_39 rfl o1 (by decide) ?_
      refine ite_imp (fun w => ?_) (fun w => ?_) w
      · refine g_iload_n dX12_so_61 rfl ?_
        refine g_bipush dX12_so_62 rfl ?_
        refine g_cmp_eq (tgt := 78) dX12_so_64 rfl o1 (by decide) ?_
        refine ite_imp (fun w => ?_) (fun w => ?_) w
        · exact g_sub (ls' := [aP 97, aI x1, aI x2, aI x3, aI x4, aU]) ⟨Or.inr rfl, Or.inr rfl, Or.inr rfl, Or.inr rfl, Or.inr rfl, Or.inl rfl, trivial⟩ w
        · refine g_aload_n dX12_so_67 rfl ?_
          refine g_getR dX12_so_68 fl_X12_66 sh_97 (al_97 hn) (fun _ _ _ => rfl) rf_97_26 ?_
          refine g_iload_n dX12_so_71 rfl ?_
          obtain ⟨o2, w⟩ := w
          refine g_iald dX12_so_72 sh_109 (al_109 hn) (Nat.le_of_ble_eq_true rfl) o2 ?_
          obtain ⟨o3, w⟩ := w
          refine g_if_ne (tgt := 78) dX12_so_73 rfl o3 ?_
          refine ite_imp (fun w => ?_) (fun w => ?_) w
          · exact g_sub (ls' := [aP 97, aI x1, aI x2, aI x3, aI x4, aU]) ⟨Or.inr rfl, Or.inr rfl, Or.inr rfl, Or.inr rfl, Or.inr rfl, Or.inl rfl, trivial⟩ w
          · refine g_iconst dX12_so_76 ?_
            exact g_retZ dX12_so_77 rfl (Or.inl rfl) w
      · refine g_aload_n dX12_so_42 rfl ?_
        refine g_getR dX12_so_43 fl_X12_33 sh_97 (al_97 hn) (fun _ _ _ => rfl) rf_97_6 ?_
        refine g_bipush dX12_so_46 rfl ?_
        refine g_iload_n dX12_so_48 rfl ?_
        refine g_iadd dX12_so_49 ?_
        obtain ⟨o4, w⟩ := w
        refine g_iald dX12_so_50 sh_99 (al_99 hn) (Nat.le_of_ble_eq_true rfl) o4 ?_
        refine g_iload_n dX12_so_51 rfl ?_
        obtain ⟨o5, w⟩ := w
        obtain ⟨o6, w⟩ := w
        refine g_cmp_ne (tgt := 59) dX12_so_52 rfl o5 o6 ?_
        refine ite_imp (fun w => ?_) (fun w => ?_) w
        · refine g_iconst dX12_so_59 ?_
          exact g_retZ dX12_so_60 rfl (Or.inl rfl) w
        · refine g_iconst dX12_so_55 ?_
          refine g_goto (tgt := 60) dX12_so_56 rfl ?_
          exact g_retZ dX12_so_60 rfl (Or.inr rfl) w
    · refine g_aload_n dX12_so_23 rfl ?_
      refine g_iload_n dX12_so_24 rfl ?_
      refine g_callVI (n := 1) (As := [aI x1]) (st := []) dX12_so_25 ml_X12_332 sh_97 rfl (al_97 hn) rfl rfl (Nat.le_of_ble_eq_true rfl) (RtI.mono w (fun r1 h1 w => ?_))
      obtain ⟨o7, w⟩ := w
      refine g_if_lt (tgt := 35) dX12_so_28 rfl o7 ?_
      refine ite_imp (fun w => ?_) (fun w => ?_) w
      · refine g_iconst dX12_so_35 ?_
        exact g_retZ dX12_so_36 rfl (Or.inl rfl) w
      · refine g_iconst dX12_so_31 ?_
        refine g_goto (tgt := 36) dX12_so_32 rfl ?_
        exact g_retZ dX12_so_36 rfl (Or.inr rfl) w
  · refine g_aload_n dX12_so_4 rfl ?_
    refine g_iload_n dX12_so_5 rfl ?_
    refine g_callVI (n := 1) (As := [aI x1]) (st := []) dX12_so_6 ml_X12_350 sh_97 rfl (al_97 hn) rfl rfl (Nat.le_of_ble_eq_true rfl) (RtI.mono w (fun r2 h2 w => ?_))
    obtain ⟨o8, w⟩ := w
    refine g_if_eq (tgt := 16) dX12_so_9 rfl o8 ?_
    refine ite_imp (fun w => ?_) (fun w => ?_) w
    · refine g_iconst dX12_so_16 ?_
      exact g_retZ dX12_so_17 rfl (Or.inl rfl) w
    · refine g_iconst dX12_so_12 ?_
      refine g_goto (tgt := 17) dX12_so_13 rfl ?_
      exact g_retZ dX12_so_17 rfl (Or.inr rfl) w
theorem b_X12_meets_30 {l : Launch} {D : Nat} {ζ : ZP} {h : HI} {Q : Int → HI → Prop} {x1 x2 x3 : Int} (hn : 144 ≤ ζ.2.2.2.2) (w : (rg x3) ∧ (rg (h 99 11)) ∧ (if (h 99 11) ≤ x3 then ((rg x1) ∧ (if ¬ x1 = (-1) then (Q (-1) h) else (Q x2 h))) else (RtI l D mX12_meetsOne (zz ζ) [aP 97, aI x3] h (fun r1 h1 => (rg r1) ∧ (if ¬ r1 = 0 then ((rg x2) ∧ (rg x1) ∧ (if ¬ x2 = x1 then (G l (D + 1) 0 0 mX12_meets (zz ζ) 30 [aP 97, aI x1, aI (x2 + 1), aI (x3 + 1)] [] h1 (qI (zz ζ) Q)) else (Q x3 h1))) else (G l (D + 1) 0 0 mX12_meets (zz ζ) 30 [aP 97, aI x1, aI x2, aI (x3 + 1)] [] h1 (qI (zz ζ) Q))))))) : G l (D + 1) 0 0 mX12_meets (zz ζ) 30 [aP 97, aI x1, aI x2, aI x3] [] h (qI (zz ζ) Q) := by
  refine g_iload_n dX12_meets_30 rfl ?_
  refine g_aload_n dX12_meets_31 rfl ?_
  refine g_getR dX12_meets_32 fl_X12_33 sh_97 (al_97 hn) (fun _ _ _ => rfl) rf_97_6 ?_
  refine g_bipush dX12_meets_35 rfl ?_
  refine g_iald dX12_meets_37 sh_99 (al_99 hn) (Nat.le_of_ble_eq_true rfl) (by decide) ?_
  obtain ⟨o1, w⟩ := w
  obtain ⟨o2, w⟩ := w
  refine g_cmp_ge (tgt := 68) dX12_meets_38 rfl o1 o2 ?_
  refine ite_imp (fun w => ?_) (fun w => ?_) w
  · refine g_iload_n dX12_meets_68 rfl ?_
    refine g_iconst dX12_meets_69 ?_
    obtain ⟨o3, w⟩ := w
    refine g_cmp_ne (tgt := 77) dX12_meets_70 rfl o3 (by decide) ?_
    refine ite_imp (fun w => ?_) (fun w => ?_) w
    · refine g_iconst dX12_meets_77 ?_
      exact g_retI dX12_meets_78 rfl w
    · refine g_iload_n dX12_meets_73 rfl ?_
      refine g_goto (tgt := 78) dX12_meets_74 rfl ?_
      exact g_retI dX12_meets_78 rfl w
  · refine g_aload_n dX12_meets_41 rfl ?_
    refine g_iload_n dX12_meets_42 rfl ?_
    refine g_callVI (n := 1) (As := [aI x3]) (st := []) dX12_meets_43 ml_X12_394 sh_97 rfl (al_97 hn) rfl rfl (Nat.le_of_ble_eq_true rfl) (RtI.mono w (fun r1 h1 w => ?_))
    obtain ⟨o4, w⟩ := w
    refine g_if_ne (tgt := 52) dX12_meets_46 rfl o4 ?_
    refine ite_imp (fun w => ?_) (fun w => ?_) w
    · refine g_iload_n dX12_meets_52 rfl ?_
      refine g_iload_n dX12_meets_53 rfl ?_
      obtain ⟨o5, w⟩ := w
      obtain ⟨o6, w⟩ := w
      refine g_cmp_ne (tgt := 59) dX12_meets_54 rfl o5 o6 ?_
      refine ite_imp (fun w => ?_) (fun w => ?_) w
      · refine g_iinc (ls' := [aP 97, aI x1, aI (x2 + 1), aI x3]) dX12_meets_59 rfl (Nat.le_of_ble_eq_true rfl) rfl rfl ?_
        refine g_iinc (ls' := [aP 97, aI x1, aI (x2 + 1), aI (x3 + 1)]) dX12_meets_62 rfl (Nat.le_of_ble_eq_true rfl) rfl rfl ?_
        refine g_goto (tgt := 30) dX12_meets_65 rfl ?_
        exact g_sub (ls' := [aP 97, aI x1, aI (x2 + 1), aI (x3 + 1)]) ⟨Or.inr rfl, Or.inr rfl, Or.inr rfl, Or.inr rfl, trivial⟩ w
      · refine g_iload_n dX12_meets_57 rfl ?_
        exact g_retI dX12_meets_58 rfl w
    · refine g_goto (tgt := 62) dX12_meets_49 rfl ?_
      refine g_iinc (ls' := [aP 97, aI x1, aI x2, aI (x3 + 1)]) dX12_meets_62 rfl (Nat.le_of_ble_eq_true rfl) rfl rfl ?_
      refine g_goto (tgt := 30) dX12_meets_65 rfl ?_
      exact g_sub (ls' := [aP 97, aI x1, aI x2, aI (x3 + 1)]) ⟨Or.inr rfl, Or.inr rfl, Or.inr rfl, Or.inr rfl, trivial⟩ w
theorem e_X12_meets {l : Launch} {D : Nat} {ζ : ZP} {h : HI} {Q : Int → HI → Prop} {x1 : Int} (hn : 144 ≤ ζ.2.2.2.2) (w : (rg (h 99 16)) ∧ (if (h 99 16) = 0 then (Q (-1) (hu h 97 0 0)) else ((rg x1) ∧ (if (-1) ≤ x1 then (RtV l D mX12_settle (zz ζ) [aP 97] (hu h 97 0 0) (fun h1 => G l (D + 1) 0 0 mX12_meets (zz ζ) 30 [aP 97, aI x1, aI 0, aI 0] [] h1 (qI (zz ζ) Q))) else (Q (-1) (hu h 97 0 0)))))) : RtI l (D + 1) mX12_meets (zz ζ) [aP 97, aI x1] h Q := by
  refine RtI.of 2 pn_X12 [aP 97, aI x1, aU, aU] rfl rfl ?_
  refine g_aload_n dX12_meets_0 rfl ?_
  refine g_iconst dX12_meets_1 ?_
  refine g_putI (J := 0) dX12_meets_2 fl_X12_1 sh_97 (al_97 hn) rfl rfl ?_
  refine g_aload_n dX12_meets_5 rfl ?_
  refine g_getR dX12_meets_6 fl_X12_33 sh_97 (al_97 hn) (fun _ _ _ => rfl) rf_97_6 ?_
  refine g_bipush dX12_meets_9 rfl ?_
  refine g_iald dX12_meets_11 sh_99 (al_99 hn) (Nat.le_of_ble_eq_true rfl) (by decide) ?_
  obtain ⟨o1, w⟩ := w
  refine g_if_eq (tgt := 20) dX12_meets_12 rfl o1 ?_
  refine ite_imp (fun w => ?_) (fun w => ?_) w
  · refine g_iconst dX12_meets_20 ?_
    exact g_retI dX12_meets_21 rfl w
  · refine g_iload_n dX12_meets_15 rfl ?_
    refine g_iconst dX12_meets_16 ?_
    obtain ⟨o2, w⟩ := w
    refine g_cmp_ge (tgt := 22) dX12_meets_17 rfl o2 (by decide) ?_
    refine ite_imp (fun w => ?_) (fun w => ?_) w
    · refine g_aload_n dX12_meets_22 rfl ?_
      refine g_callVV (n := 0) (As := []) (st := []) dX12_meets_23 ml_X12_324 sh_97 rfl (al_97 hn) rfl rfl (Nat.le_of_ble_eq_true rfl) (RtV.mono w (fun h1 w => ?_))
      refine g_iconst dX12_meets_26 ?_
      refine g_istore_n (ls' := [aP 97, aI x1, aI 0, aU]) dX12_meets_27 (Nat.le_of_ble_eq_true rfl) rfl rfl ?_
      refine g_iconst dX12_meets_28 ?_
      refine g_istore_n (ls' := [aP 97, aI x1, aI 0, aI 0]) dX12_meets_29 (Nat.le_of_ble_eq_true rfl) rfl rfl ?_
      exact g_sub (ls' := [aP 97, aI x1, aI 0, aI 0]) ⟨Or.inr rfl, Or.inr rfl, Or.inr rfl, Or.inr rfl, trivial⟩ w
    · refine g_iconst dX12_meets_20 ?_
      exact g_retI dX12_meets_21 rfl w
theorem b_X12_tells_28 {l : Launch} {D : Nat} {ζ : ZP} {h : HI} {Q : Int → HI → Prop} {x3 : Int} (hn : 144 ≤ ζ.2.2.2.2) (w : (rg x3) ∧ (rg (h 97 3)) ∧ (if (h 97 3) ≤ x3 then (Q 1 h) else (RtI l D mX12_octet (zz ζ) [aP 97, aI x3] h (fun r1 h1 => (0 ≤ x3 ∧ x3 < 60) ∧ RtI l D mX12_isCell (zz ζ) [aP 97, aI ((hu h1 114 x3 r1) 114 x3)] (hu h1 114 x3 r1) (fun r2 h2 => (rg r2) ∧ (if r2 = 0 then (Q 0 h2) else ((0 ≤ (h2 114 x3) ∧ (h2 114 x3) < 60) ∧ (rg (h2 109 (h2 114 x3))) ∧ (if ¬ (h2 109 (h2 114 x3)) = 0 then (G l (D + 1) 0 0 mX12_tells (zz ζ) 79 [aP 97, aU, aU, aI x3, aI 0] [] h2 (qI (zz ζ) Q)) else (Q 0 h2))))))))) : G l (D + 1) 0 0 mX12_tells (zz ζ) 28 [aP 97, aU, aU, aI x3, aU] [] h (qI (zz ζ) Q) := by
  refine g_iload_n dX12_tells_28 rfl ?_
  refine g_aload_n dX12_tells_29 rfl ?_
  refine g_getI (J := 3) dX12_tells_30 fl_X12_18 sh_97 (al_97 hn) (fun _ _ _ => rfl) rfl ?_
  obtain ⟨o1, w⟩ := w
  obtain ⟨o2, w⟩ := w
  refine g_cmp_ge (tgt := 115) dX12_tells_33 rfl o1 o2 ?_
  refine ite_imp (fun w => ?_) (fun w => ?_) w
  · refine g_iconst dX12_tells_115 ?_
    exact g_retZ dX12_tells_116 rfl (Or.inr rfl) w
  · refine g_aload_n dX12_tells_36 rfl ?_
    refine g_getR dX12_tells_37 fl_X12_81 sh_97 (al_97 hn) (fun _ _ _ => rfl) rf_97_36 ?_
    refine g_iload_n dX12_tells_40 rfl ?_
    refine g_aload_n dX12_tells_41 rfl ?_
    refine g_iload_n dX12_tells_42 rfl ?_
    refine g_callVI (n := 1) (As := [aI x3]) (st := [aI x3, aP 114]) dX12_tells_43 ml_X12_400 sh_97 rfl (al_97 hn) rfl rfl (Nat.le_of_ble_eq_true rfl) (RtI.mono w (fun r1 h1 w => ?_))
    obtain ⟨o3, w⟩ := w
    refine g_iast dX12_tells_46 sh_114 (al_114 hn) (Nat.le_of_ble_eq_true rfl) o3 ?_
    refine g_aload_n dX12_tells_47 rfl ?_
    refine g_aload_n dX12_tells_48 rfl ?_
    refine g_getR dX12_tells_49 fl_X12_81 sh_97 (al_97 hn) (fun _ _ _ => rfl) rf_97_36 ?_
    refine g_iload_n dX12_tells_52 rfl ?_
    refine g_iald dX12_tells_53 sh_114 (al_114 hn) (Nat.le_of_ble_eq_true rfl) o3 ?_
    refine g_callVI (n := 1) (As := [aI ((hu h1 114 x3 r1) 114 x3)]) (st := []) dX12_tells_54 ml_X12_304 sh_97 rfl (al_97 hn) rfl rfl (Nat.le_of_ble_eq_true rfl) (RtI.mono w (fun r2 h2 w => ?_))
    obtain ⟨o4, w⟩ := w
    refine g_if_eq (tgt := 74) dX12_tells_57 rfl o4 ?_
    refine ite_imp (fun w => ?_) (fun w => ?_) w
    · refine g_iconst dX12_tells_74 ?_
      exact g_retZ dX12_tells_75 rfl (Or.inl rfl) w
    · refine g_aload_n dX12_tells_60 rfl ?_
      refine g_getR dX12_tells_61 fl_X12_66 sh_97 (al_97 hn) (fun _ _ _ => rfl) rf_97_26 ?_
      refine g_aload_n dX12_tells_64 rfl ?_
      refine g_getR dX12_tells_65 fl_X12_81 sh_97 (al_97 hn) (fun _ _ _ => rfl) rf_97_36 ?_
      refine g_iload_n dX12_tells_68 rfl ?_
      refine g_iald dX12_tells_69 sh_114 (al_114 hn) (Nat.le_of_ble_eq_true rfl) o3 ?_
      obtain ⟨o5, w⟩ := w
      refine g_iald dX12_tells_70 sh_109 (al_109 hn) (Nat.le_of_ble_eq_true rfl) o5 ?_
      obtain ⟨o6, w⟩ := w
      refine g_if_ne (tgt := 76) dX12_tells_71 rfl o6 ?_
      refine ite_imp (fun w => ?_) (fun w => ?_) w
      · refine g_iconst dX12_tells_76 ?_
        refine g_istore (ls' := [aP 97, aU, aU, aI x3, aI 0]) dX12_tells_77 (Nat.le_of_ble_eq_true rfl) rfl rfl ?_
        exact g_sub (ls' := [aP 97, aU, aU, aI x3, aI 0]) ⟨Or.inr rfl, Or.inl rfl, Or.inl rfl, Or.inr rfl, Or.inr rfl, trivial⟩ w
      · refine g_iconst dX12_tells_74 ?_
        exact g_retZ dX12_tells_75 rfl (Or.inl rfl) w
theorem b_X12_tells_79 {l : Launch} {D : Nat} {ζ : ZP} {h : HI} {Q : Int → HI → Prop} {x3 x4 : Int} (hn : 144 ≤ ζ.2.2.2.2) (w : (rg x4) ∧ (rg x3) ∧ (if x3 ≤ x4 then (G l (D + 1) 0 0 mX12_tells (zz ζ) 28 [aP 97, aU, aU, aI (x3 + 1), aU] [] h (qI (zz ζ) Q)) else ((0 ≤ x4 ∧ x4 < 60) ∧ (0 ≤ x3 ∧ x3 < 60) ∧ (rg (h 114 x4)) ∧ (rg (h 114 x3)) ∧ (if ¬ (h 114 x4) = (h 114 x3) then (G l (D + 1) 0 0 mX12_tells (zz ζ) 79 [aP 97, aU, aU, aI x3, aI (x4 + 1)] [] h (qI (zz ζ) Q)) else (Q 0 h))))) : G l (D + 1) 0 0 mX12_tells (zz ζ) 79 [aP 97, aU, aU, aI x3, aI x4] [] h (qI (zz ζ) Q) := by
  refine g_iload dX12_tells_79 rfl ?_
  refine g_iload_n dX12_tells_81 rfl ?_
  obtain ⟨o1, w⟩ := w
  obtain ⟨o2, w⟩ := w
  refine g_cmp_ge (tgt := 109) dX12_tells_82 rfl o1 o2 ?_
  refine ite_imp (fun w => ?_) (fun w => ?_) w
  · refine g_iinc (ls' := [aP 97, aU, aU, aI (x3 + 1), aI x4]) dX12_tells_109 rfl (Nat.le_of_ble_eq_true rfl) rfl rfl ?_
    refine g_goto (tgt := 28) dX12_tells_112 rfl ?_
    exact g_sub (ls' := [aP 97, aU, aU, aI (x3 + 1), aU]) ⟨Or.inr rfl, Or.inl rfl, Or.inl rfl, Or.inr rfl, Or.inl rfl, trivial⟩ w
  · refine g_aload_n dX12_tells_85 rfl ?_
    refine g_getR dX12_tells_86 fl_X12_81 sh_97 (al_97 hn) (fun _ _ _ => rfl) rf_97_36 ?_
    refine g_iload dX12_tells_89 rfl ?_
    obtain ⟨o3, w⟩ := w
    refine g_iald dX12_tells_91 sh_114 (al_114 hn) (Nat.le_of_ble_eq_true rfl) o3 ?_
    refine g_aload_n dX12_tells_92 rfl ?_
    refine g_getR dX12_tells_93 fl_X12_81 sh_97 (al_97 hn) (fun _ _ _ => rfl) rf_97_36 ?_
    refine g_iload_n dX12_tells_96 rfl ?_
    obtain ⟨o4, w⟩ := w
    refine g_iald dX12_tells_97 sh_114 (al_114 hn) (Nat.le_of_ble_eq_true rfl) o4 ?_
    obtain ⟨o5, w⟩ := w
    obtain ⟨o6, w⟩ := w
    refine g_cmp_ne (tgt := 103) dX12_tells_98 rfl o5 o6 ?_
    refine ite_imp (fun w => ?_) (fun w => ?_) w
    · refine g_iinc (ls' := [aP 97, aU, aU, aI x3, aI (x4 + 1)]) dX12_tells_103 rfl (Nat.le_of_ble_eq_true rfl) rfl rfl ?_
      refine g_goto (tgt := 79) dX12_tells_106 rfl ?_
      exact g_sub (ls' := [aP 97, aU, aU, aI x3, aI (x4 + 1)]) ⟨Or.inr rfl, Or.inl rfl, Or.inl rfl, Or.inr rfl, Or.inr rfl, trivial⟩ w
    · refine g_iconst dX12_tells_101 ?_
      exact g_retZ dX12_tells_102 rfl (Or.inl rfl) w
theorem e_X12_tells {l : Launch} {D : Nat} {ζ : ZP} {h : HI} {Q : Int → HI → Prop} {x1 x2 : Int} (hn : 144 ≤ ζ.2.2.2.2) (w : RtI l D mX12_isIn (zz ζ) [aI (h 97 3), aI x1, aI x2] h (fun r1 h1 => (rg r1) ∧ (if ¬ r1 = 0 then (RtV l D mX12_settle (zz ζ) [aP 97] h1 (fun h2 => G l (D + 1) 0 0 mX12_tells (zz ζ) 28 [aP 97, aU, aU, aI 0, aU] [] (hu h2 97 43 (h2 97 3)) (qI (zz ζ) Q))) else (Q 0 h1)))) : RtI l (D + 1) mX12_tells (zz ζ) [aP 97, aI x1, aI x2] h Q := by
  refine RtI.of 2 pn_X12 [aP 97, aI x1, aI x2, aU, aU] rfl rfl ?_
  refine g_aload_n dX12_tells_0 rfl ?_
  refine g_getI (J := 3) dX12_tells_1 fl_X12_18 sh_97 (al_97 hn) (fun _ _ _ => rfl) rfl ?_
  refine g_iload_n dX12_tells_4 rfl ?_
  refine g_iload_n dX12_tells_5 rfl ?_
  refine g_callSI (n := 3) (As := [aI (h 97 3), aI x1, aI x2]) (st := []) dX12_tells_6 ml_X12_262 rfl rfl (Nat.le_of_ble_eq_true rfl) rfl (RtI.mono w (fun r1 h1 w => ?_))
  obtain ⟨o1, w⟩ := w
  refine g_if_ne (tgt := 14) dX12_tells_9 rfl o1 ?_
  refine ite_imp (fun w => ?_) (fun w => ?_) w
  · refine g_aload_n dX12_tells_14 rfl ?_
    refine g_callVV (n := 0) (As := []) (st := []) dX12_tells_15 ml_X12_324 sh_97 rfl (al_97 hn) rfl rfl (Nat.le_of_ble_eq_true rfl) (RtV.mono w (fun h2 w => ?_))
    refine g_aload_n dX12_tells_18 rfl ?_
    refine g_aload_n dX12_tells_19 rfl ?_
    refine g_getI (J := 3) dX12_tells_20 fl_X12_18 sh_97 (al_97 hn) (fun _ _ _ => rfl) rfl ?_
    refine g_putI (J := 43) dX12_tells_23 fl_X12_397 sh_97 (al_97 hn) rfl rfl ?_
    refine g_iconst dX12_tells_26 ?_
    refine g_istore_n (ls' := [aP 97, aI x1, aI x2, aI 0, aU]) dX12_tells_27 (Nat.le_of_ble_eq_true rfl) rfl rfl ?_
    exact g_sub (ls' := [aP 97, aU, aU, aI 0, aU]) ⟨Or.inr rfl, Or.inl rfl, Or.inl rfl, Or.inr rfl, Or.inl rfl, trivial⟩ w
  · refine g_iconst dX12_tells_12 ?_
    exact g_retZ dX12_tells_13 rfl (Or.inl rfl) w
theorem b_X12_weigh_33 {l : Launch} {D : Nat} {ζ : ZP} {h : HI} {Q : HI → Prop} {x1 x2 x3 x4 x5 x6 : Int} (hn : 144 ≤ ζ.2.2.2.2) (w : (rg x6) ∧ (rg x1) ∧ (if x1 ≤ x6 then ((rg x2) ∧ (rg (h 97 44)) ∧ (if (h 97 44) < x2 then (G l (D + 1) 0 0 mX12_weigh (zz ζ) 228 [aP 97, aU, aU, aU, aU, aU, aU, aI 0] [] (hu (hu (hu h 97 44 x2) 97 45 (x3 - x2)) 97 46 (x5 - x4)) (qV (zz ζ) Q)) else (if ¬ x2 = (h 97 44) then (Q h) else ((rg (x3 - x2)) ∧ (rg (h 97 45)) ∧ (if (x3 - x2) < (h 97 45) then (G l (D + 1) 0 0 mX12_weigh (zz ζ) 228 [aP 97, aU, aU, aU, aU, aU, aU, aI 0] [] (hu (hu (hu h 97 44 x2) 97 45 (x3 - x2)) 97 46 (x5 - x4)) (qV (zz ζ) Q)) else (if ¬ (x3 - x2) = (h 97 45) then (Q h) else ((rg (x5 - x4)) ∧ (rg (h 97 46)) ∧ (if (h 97 46) ≤ (x5 - x4) then (Q h) else (G l (D + 1) 0 0 mX12_weigh (zz ζ) 228 [aP 97, aU, aU, aU, aU, aU, aU, aI 0] [] (hu (hu (hu h 97 44 x2) 97 45 (x3 - x2)) 97 46 (x5 - x4)) (qV (zz ζ) Q)))))))))) else ((0 ≤ x6 ∧ x6 < 60) ∧ (rg (h 118 x6)) ∧ (rg x2) ∧ (if x2 ≤ (h 118 x6) then ((rg x3) ∧ (if (h 118 x6) ≤ x3 then (G l (D + 1) 0 0 mX12_weigh (zz ζ) 84 [aP 97, aI x1, aI x2, aU, aI x4, aI x5, aI x6, aU] [aI x3] h (qV (zz ζ) Q)) else (G l (D + 1) 0 0 mX12_weigh (zz ζ) 84 [aP 97, aI x1, aI x2, aU, aI x4, aI x5, aI x6, aU] [aI (h 118 x6)] h (qV (zz ζ) Q)))) else ((rg x3) ∧ (if (h 118 x6) ≤ x3 then (G l (D + 1) 0 0 mX12_weigh (zz ζ) 84 [aP 97, aI x1, aI (h 118 x6), aU, aI x4, aI x5, aI x6, aU] [aI x3] h (qV (zz ζ) Q)) else (G l (D + 1) 0 0 mX12_weigh (zz ζ) 84 [aP 97, aI x1, aI (h 118 x6), aU, aI x4, aI x5, aI x6, aU] [aI (h 118 x6)] h (qV (zz ζ) Q)))))))) : G l (D + 1) 0 0 mX12_weigh (zz ζ) 33 [aP 97, aI x1, aI x2, aI x3, aI x4, aI x5, aI x6, aU] [] h (qV (zz ζ) Q) := by
  refine g_iload dX12_weigh_33 rfl ?_
  refine g_iload_n dX12_weigh_35 rfl ?_
  obtain ⟨o1, w⟩ := w
  obtain ⟨o2, w⟩ := w
  refine g_cmp_ge (tgt := 143) dX12_weigh_36 rfl o1 o2 ?_
  refine ite_imp (fun w => ?_) (fun w => ?_) w
  · refine g_iload_n dX12_weigh_143 rfl ?_
    refine g_aload_n dX12_weigh_144 rfl ?_
    refine g_getI (J := 44) dX12_weigh_145 fl_X12_403 sh_97 (al_97 hn) (fun _ _ _ => rfl) rfl ?_
    obtain ⟨o3, w⟩ := w
    obtain ⟨o4, w⟩ := w
    refine g_cmp_gt (tgt := 191) dX12_weigh_148 rfl o3 o4 ?_
    refine ite_imp (fun w => ?_) (fun w => ?_) w
    · refine g_iconst dX12_weigh_191 ?_
      refine g_goto (tgt := 196) dX12_weigh_192 rfl ?_
      refine g_istore (ls' := [aP 97, aI x1, aI x2, aI x3, aI x4, aI x5, aI 1, aU]) dX12_weigh_196 (Nat.le_of_ble_eq_true rfl) rfl rfl ?_
      refine g_iload dX12_weigh_198 rfl ?_
      refine g_if_ne (tgt := 204) dX12_weigh_200 rfl (by decide) ?_
      rw [if_pos (by decide)]
      refine g_aload_n dX12_weigh_204 rfl ?_
      refine g_iload_n dX12_weigh_205 rfl ?_
      refine g_putI (J := 44) dX12_weigh_206 fl_X12_403 sh_97 (al_97 hn) rfl rfl ?_
      refine g_aload_n dX12_weigh_209 rfl ?_
      refine g_iload_n dX12_weigh_210 rfl ?_
      refine g_iload_n dX12_weigh_211 rfl ?_
      refine g_isub dX12_weigh_212 ?_
      refine g_putI (J := 45) dX12_weigh_213 fl_X12_406 sh_97 (al_97 hn) rfl rfl ?_
      refine g_aload_n dX12_weigh_216 rfl ?_
      refine g_iload dX12_weigh_217 rfl ?_
      refine g_iload dX12_weigh_219 rfl ?_
      refine g_isub dX12_weigh_221 ?_
      refine g_putI (J := 46) dX12_weigh_222 fl_X12_409 sh_97 (al_97 hn) rfl rfl ?_
      refine g_iconst dX12_weigh_225 ?_
      refine g_istore (ls' := [aP 97, aI x1, aI x2, aI x3, aI x4, aI x5, aI 1, aI 0]) dX12_weigh_226 (Nat.le_of_ble_eq_true rfl) rfl rfl ?_
      exact g_sub (ls' := [aP 97, aU, aU, aU, aU, aU, aU, aI 0]) ⟨Or.inr rfl, Or.inl rfl, Or.inl rfl, Or.inl rfl, Or.inl rfl, Or.inl rfl, Or.inl rfl, Or.inr rfl, trivial⟩ w
    · refine g_iload_n dX12_weigh_151 rfl ?_
      refine g_aload_n dX12_weigh_152 rfl ?_
      refine g_getI (J := 44) dX12_weigh_153 fl_X12_403 sh_97 (al_97 hn) (fun _ _ _ => rfl) rfl ?_
      refine g_cmp_ne (tgt := 195) dX12_weigh_156 rfl o3 o4 ?_
      refine ite_imp (fun w => ?_) (fun w => ?_) w
      · refine g_iconst dX12_weigh_195 ?_
        refine g_istore (ls' := [aP 97, aI x1, aI x2, aI x3, aI x4, aI x5, aI 0, aU]) dX12_weigh_196 (Nat.le_of_ble_eq_true rfl) rfl rfl ?_
        refine g_iload dX12_weigh_198 rfl ?_
        refine g_if_ne (tgt := 204) dX12_weigh_200 rfl (by decide) ?_
        rw [if_neg (by decide)]
        exact g_retV dX12_weigh_203 rfl w
      · refine g_iload_n dX12_weigh_159 rfl ?_
        refine g_iload_n dX12_weigh_160 rfl ?_
        refine g_isub dX12_weigh_161 ?_
        refine g_aload_n dX12_weigh_162 rfl ?_
        refine g_getI (J := 45) dX12_weigh_163 fl_X12_406 sh_97 (al_97 hn) (fun _ _ _ => rfl) rfl ?_
        obtain ⟨o5, w⟩ := w
        obtain ⟨o6, w⟩ := w
        refine g_cmp_lt (tgt := 191) dX12_weigh_166 rfl o5 o6 ?_
        refine ite_imp (fun w => ?_) (fun w => ?_) w
        · refine g_iconst dX12_weigh_191 ?_
          refine g_goto (tgt := 196) dX12_weigh_192 rfl ?_
          refine g_istore (ls' := [aP 97, aI x1, aI x2, aI x3, aI x4, aI x5, aI 1, aU]) dX12_weigh_196 (Nat.le_of_ble_eq_true rfl) rfl rfl ?_
          refine g_iload dX12_weigh_198 rfl ?_
          refine g_if_ne (tgt := 204) dX12_weigh_200 rfl (by decide) ?_
          rw [if_pos (by decide)]
          refine g_aload_n dX12_weigh_204 rfl ?_
          refine g_iload_n dX12_weigh_205 rfl ?_
          refine g_putI (J := 44) dX12_weigh_206 fl_X12_403 sh_97 (al_97 hn) rfl rfl ?_
          refine g_aload_n dX12_weigh_209 rfl ?_
          refine g_iload_n dX12_weigh_210 rfl ?_
          refine g_iload_n dX12_weigh_211 rfl ?_
          refine g_isub dX12_weigh_212 ?_
          refine g_putI (J := 45) dX12_weigh_213 fl_X12_406 sh_97 (al_97 hn) rfl rfl ?_
          refine g_aload_n dX12_weigh_216 rfl ?_
          refine g_iload dX12_weigh_217 rfl ?_
          refine g_iload dX12_weigh_219 rfl ?_
          refine g_isub dX12_weigh_221 ?_
          refine g_putI (J := 46) dX12_weigh_222 fl_X12_409 sh_97 (al_97 hn) rfl rfl ?_
          refine g_iconst dX12_weigh_225 ?_
          refine g_istore (ls' := [aP 97, aI x1, aI x2, aI x3, aI x4, aI x5, aI 1, aI 0]) dX12_weigh_226 (Nat.le_of_ble_eq_true rfl) rfl rfl ?_
          exact g_sub (ls' := [aP 97, aU, aU, aU, aU, aU, aU, aI 0]) ⟨Or.inr rfl, Or.inl rfl, Or.inl rfl, Or.inl rfl, Or.inl rfl, Or.inl rfl, Or.inl rfl, Or.inr rfl, trivial⟩ w
        · refine g_iload_n dX12_weigh_169 rfl ?_
          refine g_iload_n dX12_weigh_170 rfl ?_
          refine g_isub dX12_weigh_171 ?_
          refine g_aload_n dX12_weigh_172 rfl ?_
          refine g_getI (J := 45) dX12_weigh_173 fl_X12_406 sh_97 (al_97 hn) (fun _ _ _ => rfl) rfl ?_
          refine g_cmp_ne (tgt := 195) dX12_weigh_176 rfl o5 o6 ?_
          refine ite_imp (fun w => ?_) (fun w => ?_) w
          · refine g_iconst dX12_weigh_195 ?_
            refine g_istore (ls' := [aP 97, aI x1, aI x2, aI x3, aI x4, aI x5, aI 0, aU]) dX12_weigh_196 (Nat.le_of_ble_eq_true rfl) rfl rfl ?_
            refine g_iload dX12_weigh_198 rfl ?_
            refine g_if_ne (tgt := 204) dX12_weigh_200 rfl (by decide) ?_
            rw [if_neg (by decide)]
            exact g_retV dX12_weigh_203 rfl w
          · refine g_iload dX12_weigh_179 rfl ?_
            refine g_iload dX12_weigh_181 rfl ?_
            refine g_isub dX12_weigh_183 ?_
            refine g_aload_n dX12_weigh_184 rfl ?_
            refine g_getI (J := 46) dX12_weigh_185 fl_X12_409 sh_97 (al_97 hn) (fun _ _ _ => rfl) rfl ?_
            obtain ⟨o7, w⟩ := w
            obtain ⟨o8, w⟩ := w
            refine g_cmp_ge (tgt := 195) dX12_weigh_188 rfl o7 o8 ?_
            refine ite_imp (fun w => ?_) (fun w => ?_) w
            · refine g_iconst dX12_weigh_195 ?_
              refine g_istore (ls' := [aP 97, aI x1, aI x2, aI x3, aI x4, aI x5, aI 0, aU]) dX12_weigh_196 (Nat.le_of_ble_eq_true rfl) rfl rfl ?_
              refine g_iload dX12_weigh_198 rfl ?_
              refine g_if_ne (tgt := 204) dX12_weigh_200 rfl (by decide) ?_
              rw [if_neg (by decide)]
              exact g_retV dX12_weigh_203 rfl w
            · refine g_iconst dX12_weigh_191 ?_
              refine g_goto (tgt := 196) dX12_weigh_192 rfl ?_
              refine g_istore (ls' := [aP 97, aI x1, aI x2, aI x3, aI x4, aI x5, aI 1, aU]) dX12_weigh_196 (Nat.le_of_ble_eq_true rfl) rfl rfl ?_
              refine g_iload dX12_weigh_198 rfl ?_
              refine g_if_ne (tgt := 204) dX12_weigh_200 rfl (by decide) ?_
              rw [if_pos (by decide)]
              refine g_aload_n dX12_weigh_204 rfl ?_
              refine g_iload_n dX12_weigh_205 rfl ?_
              refine g_putI (J := 44) dX12_weigh_206 fl_X12_403 sh_97 (al_97 hn) rfl rfl ?_
              refine g_aload_n dX12_weigh_209 rfl ?_
              refine g_iload_n dX12_weigh_210 rfl ?_
              refine g_iload_n dX12_weigh_211 rfl ?_
              refine g_isub dX12_weigh_212 ?_
              refine g_putI (J := 45) dX12_weigh_213 fl_X12_406 sh_97 (al_97 hn) rfl rfl ?_
              refine g_aload_n dX12_weigh_216 rfl ?_
              refine g_iload dX12_weigh_217 rfl ?_
              refine g_iload dX12_weigh_219 rfl ?_
              refine g_isub dX12_weigh_221 ?_
              refine g_putI (J := 46) dX12_weigh_222 fl_X12_409 sh_97 (al_97 hn) rfl rfl ?_
              refine g_iconst dX12_weigh_225 ?_
              refine g_istore (ls' := [aP 97, aI x1, aI x2, aI x3, aI x4, aI x5, aI 1, aI 0]) dX12_weigh_226 (Nat.le_of_ble_eq_true rfl) rfl rfl ?_
              exact g_sub (ls' := [aP 97, aU, aU, aU, aU, aU, aU, aI 0]) ⟨Or.inr rfl, Or.inl rfl, Or.inl rfl, Or.inl rfl, Or.inl rfl, Or.inl rfl, Or.inl rfl, Or.inr rfl, trivial⟩ w
  · refine g_aload_n dX12_weigh_39 rfl ?_
    refine g_getR dX12_weigh_40 fl_X12_93 sh_97 (al_97 hn) (fun _ _ _ => rfl) rf_97_40 ?_
    refine g_iload dX12_weigh_43 rfl ?_
    obtain ⟨o9, w⟩ := w
    refine g_iald dX12_weigh_45 sh_118 (al_118 hn) (Nat.le_of_ble_eq_true rfl) o9 ?_
    refine g_iload_n dX12_weigh_46 rfl ?_
    obtain ⟨o10, w⟩ := w
    obtain ⟨o11, w⟩ := w
    refine g_cmp_ge (tgt := 60) dX12_weigh_47 rfl o10 o11 ?_
    refine ite_imp (fun w => ?_) (fun w => ?_) w
    · refine g_iload_n dX12_weigh_60 rfl ?_
      refine g_istore_n (ls' := [aP 97, aI x1, aI x2, aI x3, aI x4, aI x5, aI x6, aU]) dX12_weigh_61 (Nat.le_of_ble_eq_true rfl) rfl rfl ?_
      refine g_aload_n dX12_weigh_62 rfl ?_
      refine g_getR dX12_weigh_63 fl_X12_93 sh_97 (al_97 hn) (fun _ _ _ => rfl) rf_97_40 ?_
      refine g_iload dX12_weigh_66 rfl ?_
      refine g_iald dX12_weigh_68 sh_118 (al_118 hn) (Nat.le_of_ble_eq_true rfl) o9 ?_
      refine g_iload_n dX12_weigh_69 rfl ?_
      obtain ⟨o12, w⟩ := w
      refine g_cmp_le (tgt := 83) dX12_weigh_70 rfl o10 o12 ?_
      refine ite_imp (fun w => ?_) (fun w => ?_) w
      · refine g_iload_n dX12_weigh_83 rfl ?_
        exact g_sub (ls' := [aP 97, aI x1, aI x2, aU, aI x4, aI x5, aI x6, aU]) ⟨Or.inr rfl, Or.inr rfl, Or.inr rfl, Or.inl rfl, Or.inr rfl, Or.inr rfl, Or.inr rfl, Or.inl rfl, trivial⟩ w
      · refine g_aload_n dX12_weigh_73 rfl ?_
        refine g_getR dX12_weigh_74 fl_X12_93 sh_97 (al_97 hn) (fun _ _ _ => rfl) rf_97_40 ?_
        refine g_iload dX12_weigh_77 rfl ?_
        refine g_iald dX12_weigh_79 sh_118 (al_118 hn) (Nat.le_of_ble_eq_true rfl) o9 ?_
        refine g_goto (tgt := 84) dX12_weigh_80 rfl ?_
        exact g_sub (ls' := [aP 97, aI x1, aI x2, aU, aI x4, aI x5, aI x6, aU]) ⟨Or.inr rfl, Or.inr rfl, Or.inr rfl, Or.inl rfl, Or.inr rfl, Or.inr rfl, Or.inr rfl, Or.inl rfl, trivial⟩ w
    · refine g_aload_n dX12_weigh_50 rfl ?_
      refine g_getR dX12_weigh_51 fl_X12_93 sh_97 (al_97 hn) (fun _ _ _ => rfl) rf_97_40 ?_
      refine g_iload dX12_weigh_54 rfl ?_
      refine g_iald dX12_weigh_56 sh_118 (al_118 hn) (Nat.le_of_ble_eq_true rfl) o9 ?_
      refine g_goto (tgt := 61) dX12_weigh_57 rfl ?_
      refine g_istore_n (ls' := [aP 97, aI x1, aI (h 118 x6), aI x3, aI x4, aI x5, aI x6, aU]) dX12_weigh_61 (Nat.le_of_ble_eq_true rfl) rfl rfl ?_
      refine g_aload_n dX12_weigh_62 rfl ?_
      refine g_getR dX12_weigh_63 fl_X12_93 sh_97 (al_97 hn) (fun _ _ _ => rfl) rf_97_40 ?_
      refine g_iload dX12_weigh_66 rfl ?_
      refine g_iald dX12_weigh_68 sh_118 (al_118 hn) (Nat.le_of_ble_eq_true rfl) o9 ?_
      refine g_iload_n dX12_weigh_69 rfl ?_
      obtain ⟨o13, w⟩ := w
      refine g_cmp_le (tgt := 83) dX12_weigh_70 rfl o10 o13 ?_
      refine ite_imp (fun w => ?_) (fun w => ?_) w
      · refine g_iload_n dX12_weigh_83 rfl ?_
        exact g_sub (ls' := [aP 97, aI x1, aI (h 118 x6), aU, aI x4, aI x5, aI x6, aU]) ⟨Or.inr rfl, Or.inr rfl, Or.inr rfl, Or.inl rfl, Or.inr rfl, Or.inr rfl, Or.inr rfl, Or.inl rfl, trivial⟩ w
      · refine g_aload_n dX12_weigh_73 rfl ?_
        refine g_getR dX12_weigh_74 fl_X12_93 sh_97 (al_97 hn) (fun _ _ _ => rfl) rf_97_40 ?_
        refine g_iload dX12_weigh_77 rfl ?_
        refine g_iald dX12_weigh_79 sh_118 (al_118 hn) (Nat.le_of_ble_eq_true rfl) o9 ?_
        refine g_goto (tgt := 84) dX12_weigh_80 rfl ?_
        exact g_sub (ls' := [aP 97, aI x1, aI (h 118 x6), aU, aI x4, aI x5, aI x6, aU]) ⟨Or.inr rfl, Or.inr rfl, Or.inr rfl, Or.inl rfl, Or.inr rfl, Or.inr rfl, Or.inr rfl, Or.inl rfl, trivial⟩ w
theorem b_X12_weigh_84 {l : Launch} {D : Nat} {ζ : ZP} {h : HI} {Q : HI → Prop} {s0 x1 x2 x4 x5 x6 : Int} (hn : 144 ≤ ζ.2.2.2.2) (w : (0 ≤ x6 ∧ x6 < 60) ∧ (rg (h 119 x6)) ∧ (rg x4) ∧ (if x4 ≤ (h 119 x6) then ((rg x5) ∧ (if (h 119 x6) ≤ x5 then (G l (D + 1) 0 0 mX12_weigh (zz ζ) 33 [aP 97, aI x1, aI x2, aI s0, aI x4, aI x5, aI (x6 + 1), aU] [] h (qV (zz ζ) Q)) else (G l (D + 1) 0 0 mX12_weigh (zz ζ) 33 [aP 97, aI x1, aI x2, aI s0, aI x4, aI (h 119 x6), aI (x6 + 1), aU] [] h (qV (zz ζ) Q)))) else ((rg x5) ∧ (if (h 119 x6) ≤ x5 then (G l (D + 1) 0 0 mX12_weigh (zz ζ) 33 [aP 97, aI x1, aI x2, aI s0, aI (h 119 x6), aI x5, aI (x6 + 1), aU] [] h (qV (zz ζ) Q)) else (G l (D + 1) 0 0 mX12_weigh (zz ζ) 33 [aP 97, aI x1, aI x2, aI s0, aI (h 119 x6), aI (h 119 x6), aI (x6 + 1), aU] [] h (qV (zz ζ) Q)))))) : G l (D + 1) 0 0 mX12_weigh (zz ζ) 84 [aP 97, aI x1, aI x2, aU, aI x4, aI x5, aI x6, aU] [aI s0] h (qV (zz ζ) Q) := by
  refine g_istore_n (ls' := [aP 97, aI x1, aI x2, aI s0, aI x4, aI x5, aI x6, aU]) dX12_weigh_84 (Nat.le_of_ble_eq_true rfl) rfl rfl ?_
  refine g_aload_n dX12_weigh_85 rfl ?_
  refine g_getR dX12_weigh_86 fl_X12_96 sh_97 (al_97 hn) (fun _ _ _ => rfl) rf_97_41 ?_
  refine g_iload dX12_weigh_89 rfl ?_
  obtain ⟨o1, w⟩ := w
  refine g_iald dX12_weigh_91 sh_119 (al_119 hn) (Nat.le_of_ble_eq_true rfl) o1 ?_
  refine g_iload dX12_weigh_92 rfl ?_
  obtain ⟨o2, w⟩ := w
  obtain ⟨o3, w⟩ := w
  refine g_cmp_ge (tgt := 107) dX12_weigh_94 rfl o2 o3 ?_
  refine ite_imp (fun w => ?_) (fun w => ?_) w
  · refine g_iload dX12_weigh_107 rfl ?_
    refine g_istore (ls' := [aP 97, aI x1, aI x2, aI s0, aI x4, aI x5, aI x6, aU]) dX12_weigh_109 (Nat.le_of_ble_eq_true rfl) rfl rfl ?_
    refine g_aload_n dX12_weigh_111 rfl ?_
    refine g_getR dX12_weigh_112 fl_X12_96 sh_97 (al_97 hn) (fun _ _ _ => rfl) rf_97_41 ?_
    refine g_iload dX12_weigh_115 rfl ?_
    refine g_iald dX12_weigh_117 sh_119 (al_119 hn) (Nat.le_of_ble_eq_true rfl) o1 ?_
    refine g_iload dX12_weigh_118 rfl ?_
    obtain ⟨o4, w⟩ := w
    refine g_cmp_le (tgt := 133) dX12_weigh_120 rfl o2 o4 ?_
    refine ite_imp (fun w => ?_) (fun w => ?_) w
    · refine g_iload dX12_weigh_133 rfl ?_
      refine g_istore (ls' := [aP 97, aI x1, aI x2, aI s0, aI x4, aI x5, aI x6, aU]) dX12_weigh_135 (Nat.le_of_ble_eq_true rfl) rfl rfl ?_
      refine g_iinc (ls' := [aP 97, aI x1, aI x2, aI s0, aI x4, aI x5, aI (x6 + 1), aU]) dX12_weigh_137 rfl (Nat.le_of_ble_eq_true rfl) rfl rfl ?_
      refine g_goto (tgt := 33) dX12_weigh_140 rfl ?_
      exact g_sub (ls' := [aP 97, aI x1, aI x2, aI s0, aI x4, aI x5, aI (x6 + 1), aU]) ⟨Or.inr rfl, Or.inr rfl, Or.inr rfl, Or.inr rfl, Or.inr rfl, Or.inr rfl, Or.inr rfl, Or.inl rfl, trivial⟩ w
    · refine g_aload_n dX12_weigh_123 rfl ?_
      refine g_getR dX12_weigh_124 fl_X12_96 sh_97 (al_97 hn) (fun _ _ _ => rfl) rf_97_41 ?_
      refine g_iload dX12_weigh_127 rfl ?_
      refine g_iald dX12_weigh_129 sh_119 (al_119 hn) (Nat.le_of_ble_eq_true rfl) o1 ?_
      refine g_goto (tgt := 135) dX12_weigh_130 rfl ?_
      refine g_istore (ls' := [aP 97, aI x1, aI x2, aI s0, aI x4, aI (h 119 x6), aI x6, aU]) dX12_weigh_135 (Nat.le_of_ble_eq_true rfl) rfl rfl ?_
      refine g_iinc (ls' := [aP 97, aI x1, aI x2, aI s0, aI x4, aI (h 119 x6), aI (x6 + 1), aU]) dX12_weigh_137 rfl (Nat.le_of_ble_eq_true rfl) rfl rfl ?_
      refine g_goto (tgt := 33) dX12_weigh_140 rfl ?_
      exact g_sub (ls' := [aP 97, aI x1, aI x2, aI s0, aI x4, aI (h 119 x6), aI (x6 + 1), aU]) ⟨Or.inr rfl, Or.inr rfl, Or.inr rfl, Or.inr rfl, Or.inr rfl, Or.inr rfl, Or.inr rfl, Or.inl rfl, trivial⟩ w
  · refine g_aload_n dX12_weigh_97 rfl ?_
    refine g_getR dX12_weigh_98 fl_X12_96 sh_97 (al_97 hn) (fun _ _ _ => rfl) rf_97_41 ?_
    refine g_iload dX12_weigh_101 rfl ?_
    refine g_iald dX12_weigh_103 sh_119 (al_119 hn) (Nat.le_of_ble_eq_true rfl) o1 ?_
    refine g_goto (tgt := 109) dX12_weigh_104 rfl ?_
    refine g_istore (ls' := [aP 97, aI x1, aI x2, aI s0, aI (h 119 x6), aI x5, aI x6, aU]) dX12_weigh_109 (Nat.le_of_ble_eq_true rfl) rfl rfl ?_
    refine g_aload_n dX12_weigh_111 rfl ?_
    refine g_getR dX12_weigh_112 fl_X12_96 sh_97 (al_97 hn) (fun _ _ _ => rfl) rf_97_41 ?_
    refine g_iload dX12_weigh_115 rfl ?_
    refine g_iald dX12_weigh_117 sh_119 (al_119 hn) (Nat.le_of_ble_eq_true rfl) o1 ?_
    refine g_iload dX12_weigh_118 rfl ?_
    obtain ⟨o5, w⟩ := w
    refine g_cmp_le (tgt := 133) dX12_weigh_120 rfl o2 o5 ?_
    refine ite_imp (fun w => ?_) (fun w => ?_) w
    · refine g_iload dX12_weigh_133 rfl ?_
      refine g_istore (ls' := [aP 97, aI x1, aI x2, aI s0, aI (h 119 x6), aI x5, aI x6, aU]) dX12_weigh_135 (Nat.le_of_ble_eq_true rfl) rfl rfl ?_
      refine g_iinc (ls' := [aP 97, aI x1, aI x2, aI s0, aI (h 119 x6), aI x5, aI (x6 + 1), aU]) dX12_weigh_137 rfl (Nat.le_of_ble_eq_true rfl) rfl rfl ?_
      refine g_goto (tgt := 33) dX12_weigh_140 rfl ?_
      exact g_sub (ls' := [aP 97, aI x1, aI x2, aI s0, aI (h 119 x6), aI x5, aI (x6 + 1), aU]) ⟨Or.inr rfl, Or.inr rfl, Or.inr rfl, Or.inr rfl, Or.inr rfl, Or.inr rfl, Or.inr rfl, Or.inl rfl, trivial⟩ w
    · refine g_aload_n dX12_weigh_123 rfl ?_
      refine g_getR dX12_weigh_124 fl_X12_96 sh_97 (al_97 hn) (fun _ _ _ => rfl) rf_97_41 ?_
      refine g_iload dX12_weigh_127 rfl ?_
      refine g_iald dX12_weigh_129 sh_119 (al_119 hn) (Nat.le_of_ble_eq_true rfl) o1 ?_
      refine g_goto (tgt := 135) dX12_weigh_130 rfl ?_
      refine g_istore (ls' := [aP 97, aI x1, aI x2, aI s0, aI (h 119 x6), aI (h 119 x6), aI x6, aU]) dX12_weigh_135 (Nat.le_of_ble_eq_true rfl) rfl rfl ?_
      refine g_iinc (ls' := [aP 97, aI x1, aI x2, aI s0, aI (h 119 x6), aI (h 119 x6), aI (x6 + 1), aU]) dX12_weigh_137 rfl (Nat.le_of_ble_eq_true rfl) rfl rfl ?_
      refine g_goto (tgt := 33) dX12_weigh_140 rfl ?_
      exact g_sub (ls' := [aP 97, aI x1, aI x2, aI s0, aI (h 119 x6), aI (h 119 x6), aI (x6 + 1), aU]) ⟨Or.inr rfl, Or.inr rfl, Or.inr rfl, Or.inr rfl, Or.inr rfl, Or.inr rfl, Or.inr rfl, Or.inl rfl, trivial⟩ w
theorem b_X12_weigh_228 {l : Launch} {D : Nat} {ζ : ZP} {h : HI} {Q : HI → Prop} {x7 : Int} (hn : 144 ≤ ζ.2.2.2.2) (w : (rg x7) ∧ (rg (h 97 43)) ∧ (if (h 97 43) ≤ x7 then (Q h) else ((0 ≤ x7 ∧ x7 < 60) ∧ G l (D + 1) 0 0 mX12_weigh (zz ζ) 228 [aP 97, aU, aU, aU, aU, aU, aU, aI (x7 + 1)] [] (hu h 120 x7 (h 115 x7)) (qV (zz ζ) Q)))) : G l (D + 1) 0 0 mX12_weigh (zz ζ) 228 [aP 97, aU, aU, aU, aU, aU, aU, aI x7] [] h (qV (zz ζ) Q) := by
  refine g_iload dX12_weigh_228 rfl ?_
  refine g_aload_n dX12_weigh_230 rfl ?_
  refine g_getI (J := 43) dX12_weigh_231 fl_X12_397 sh_97 (al_97 hn) (fun _ _ _ => rfl) rfl ?_
  obtain ⟨o1, w⟩ := w
  obtain ⟨o2, w⟩ := w
  refine g_cmp_ge (tgt := 257) dX12_weigh_234 rfl o1 o2 ?_
  refine ite_imp (fun w => ?_) (fun w => ?_) w
  · exact g_retV dX12_weigh_257 rfl w
  · refine g_aload_n dX12_weigh_237 rfl ?_
    refine g_getR dX12_weigh_238 fl_X12_99 sh_97 (al_97 hn) (fun _ _ _ => rfl) rf_97_42 ?_
    refine g_iload dX12_weigh_241 rfl ?_
    refine g_aload_n dX12_weigh_243 rfl ?_
    refine g_getR dX12_weigh_244 fl_X12_84 sh_97 (al_97 hn) (fun _ _ _ => rfl) rf_97_37 ?_
    refine g_iload dX12_weigh_247 rfl ?_
    obtain ⟨o3, w⟩ := w
    refine g_iald dX12_weigh_249 sh_115 (al_115 hn) (Nat.le_of_ble_eq_true rfl) o3 ?_
    refine g_iast dX12_weigh_250 sh_120 (al_120 hn) (Nat.le_of_ble_eq_true rfl) o3 ?_
    refine g_iinc (ls' := [aP 97, aU, aU, aU, aU, aU, aU, aI (x7 + 1)]) dX12_weigh_251 rfl (Nat.le_of_ble_eq_true rfl) rfl rfl ?_
    refine g_goto (tgt := 228) dX12_weigh_254 rfl ?_
    exact g_sub (ls' := [aP 97, aU, aU, aU, aU, aU, aU, aI (x7 + 1)]) ⟨Or.inr rfl, Or.inl rfl, Or.inl rfl, Or.inl rfl, Or.inl rfl, Or.inl rfl, Or.inl rfl, Or.inr rfl, trivial⟩ w
theorem e_X12_weigh {l : Launch} {D : Nat} {ζ : ZP} {h : HI} {Q : HI → Prop} {x1 : Int} (hn : 144 ≤ ζ.2.2.2.2) (w : G l (D + 1) 0 0 mX12_weigh (zz ζ) 33 [aP 97, aI x1, aI (h 118 0), aI (h 118 0), aI (h 119 0), aI (h 119 0), aI 1, aU] [] h (qV (zz ζ) Q)) : RtV l (D + 1) mX12_weigh (zz ζ) [aP 97, aI x1] h Q := by
  refine RtV.of 6 pn_X12 [aP 97, aI x1, aU, aU, aU, aU, aU, aU] rfl rfl ?_
  refine g_aload_n dX12_weigh_0 rfl ?_
  refine g_getR dX12_weigh_1 fl_X12_93 sh_97 (al_97 hn) (fun _ _ _ => rfl) rf_97_40 ?_
  refine g_iconst dX12_weigh_4 ?_
  refine g_iald dX12_weigh_5 sh_118 (al_118 hn) (Nat.le_of_ble_eq_true rfl) (by decide) ?_
  refine g_istore_n (ls' := [aP 97, aI x1, aI (h 118 0), aU, aU, aU, aU, aU]) dX12_weigh_6 (Nat.le_of_ble_eq_true rfl) rfl rfl ?_
  refine g_aload_n dX12_weigh_7 rfl ?_
  refine g_getR dX12_weigh_8 fl_X12_93 sh_97 (al_97 hn) (fun _ _ _ => rfl) rf_97_40 ?_
  refine g_iconst dX12_weigh_11 ?_
  refine g_iald dX12_weigh_12 sh_118 (al_118 hn) (Nat.le_of_ble_eq_true rfl) (by decide) ?_
  refine g_istore_n (ls' := [aP 97, aI x1, aI (h 118 0), aI (h 118 0), aU, aU, aU, aU]) dX12_weigh_13 (Nat.le_of_ble_eq_true rfl) rfl rfl ?_
  refine g_aload_n dX12_weigh_14 rfl ?_
  refine g_getR dX12_weigh_15 fl_X12_96 sh_97 (al_97 hn) (fun _ _ _ => rfl) rf_97_41 ?_
  refine g_iconst dX12_weigh_18 ?_
  refine g_iald dX12_weigh_19 sh_119 (al_119 hn) (Nat.le_of_ble_eq_true rfl) (by decide) ?_
  refine g_istore (ls' := [aP 97, aI x1, aI (h 118 0), aI (h 118 0), aI (h 119 0), aU, aU, aU]) dX12_weigh_20 (Nat.le_of_ble_eq_true rfl) rfl rfl ?_
  refine g_aload_n dX12_weigh_22 rfl ?_
  refine g_getR dX12_weigh_23 fl_X12_96 sh_97 (al_97 hn) (fun _ _ _ => rfl) rf_97_41 ?_
  refine g_iconst dX12_weigh_26 ?_
  refine g_iald dX12_weigh_27 sh_119 (al_119 hn) (Nat.le_of_ble_eq_true rfl) (by decide) ?_
  refine g_istore (ls' := [aP 97, aI x1, aI (h 118 0), aI (h 118 0), aI (h 119 0), aI (h 119 0), aU, aU]) dX12_weigh_28 (Nat.le_of_ble_eq_true rfl) rfl rfl ?_
  refine g_iconst dX12_weigh_30 ?_
  refine g_istore (ls' := [aP 97, aI x1, aI (h 118 0), aI (h 118 0), aI (h 119 0), aI (h 119 0), aI 1, aU]) dX12_weigh_31 (Nat.le_of_ble_eq_true rfl) rfl rfl ?_
  exact g_sub (ls' := [aP 97, aI x1, aI (h 118 0), aI (h 118 0), aI (h 119 0), aI (h 119 0), aI 1, aU]) ⟨Or.inr rfl, Or.inr rfl, Or.inr rfl, Or.inr rfl, Or.inr rfl, Or.inr rfl, Or.inr rfl, Or.inl rfl, trivial⟩ w
theorem e_X12_put {l : Launch} {D : Nat} {ζ : ZP} {h : HI} {Q : HI → Prop} {x1 x2 x3 : Int} (hn : 144 ≤ ζ.2.2.2.2) (w : (0 ≤ x2 ∧ x2 < 60) ∧ (0 ≤ x1 ∧ x1 < 60) ∧ (0 ≤ (h 114 x1) ∧ (h 114 x1) < 60) ∧ RtI l D mX12_flowOf (zz ζ) [aP 97, aI (h 114 x1)] (hu (hu h 117 x2 ((h 117 x2) + x3)) 118 x2 ((h 118 x2) + (x3 * (h 106 (h 114 x1))))) (fun r1 h1 => Q (hu h1 119 x2 ((h 119 x2) + (x3 * r1))))) : RtV l (D + 1) mX12_put (zz ζ) [aP 97, aI x1, aI x2, aI x3] h Q := by
  refine RtV.of 0 pn_X12 [aP 97, aI x1, aI x2, aI x3] rfl rfl ?_
  refine g_aload_n dX12_put_0 rfl ?_
  refine g_getR dX12_put_1 fl_X12_90 sh_97 (al_97 hn) (fun _ _ _ => rfl) rf_97_39 ?_
  refine g_iload_n dX12_put_4 rfl ?_
  refine g_dup2 dX12_put_5 rfl rfl ?_
  obtain ⟨o1, w⟩ := w
  refine g_iald dX12_put_6 sh_117 (al_117 hn) (Nat.le_of_ble_eq_true rfl) o1 ?_
  refine g_iload_n dX12_put_7 rfl ?_
  refine g_iadd dX12_put_8 ?_
  refine g_iast dX12_put_9 sh_117 (al_117 hn) (Nat.le_of_ble_eq_true rfl) o1 ?_
  refine g_aload_n dX12_put_10 rfl ?_
  refine g_getR dX12_put_11 fl_X12_93 sh_97 (al_97 hn) (fun _ _ _ => rfl) rf_97_40 ?_
  refine g_iload_n dX12_put_14 rfl ?_
  refine g_dup2 dX12_put_15 rfl rfl ?_
  refine g_iald dX12_put_16 sh_118 (al_118 hn) (Nat.le_of_ble_eq_true rfl) o1 ?_
  refine g_iload_n dX12_put_17 rfl ?_
  refine g_aload_n dX12_put_18 rfl ?_
  refine g_getR dX12_put_19 fl_X12_57 sh_97 (al_97 hn) (fun _ _ _ => rfl) rf_97_23 ?_
  refine g_aload_n dX12_put_22 rfl ?_
  refine g_getR dX12_put_23 fl_X12_81 sh_97 (al_97 hn) (fun _ _ _ => rfl) rf_97_36 ?_
  refine g_iload_n dX12_put_26 rfl ?_
  obtain ⟨o2, w⟩ := w
  refine g_iald dX12_put_27 sh_114 (al_114 hn) (Nat.le_of_ble_eq_true rfl) o2 ?_
  obtain ⟨o3, w⟩ := w
  refine g_iald dX12_put_28 sh_106 (al_106 hn) (Nat.le_of_ble_eq_true rfl) o3 ?_
  refine g_imul dX12_put_29 ?_
  refine g_iadd dX12_put_30 ?_
  refine g_iast dX12_put_31 sh_118 (al_118 hn) (Nat.le_of_ble_eq_true rfl) o1 ?_
  refine g_aload_n dX12_put_32 rfl ?_
  refine g_getR dX12_put_33 fl_X12_96 sh_97 (al_97 hn) (fun _ _ _ => rfl) rf_97_41 ?_
  refine g_iload_n dX12_put_36 rfl ?_
  refine g_dup2 dX12_put_37 rfl rfl ?_
  refine g_iald dX12_put_38 sh_119 (al_119 hn) (Nat.le_of_ble_eq_true rfl) o1 ?_
  refine g_iload_n dX12_put_39 rfl ?_
  refine g_aload_n dX12_put_40 rfl ?_
  refine g_aload_n dX12_put_41 rfl ?_
  refine g_getR dX12_put_42 fl_X12_81 sh_97 (al_97 hn) (fun _ _ _ => rfl) rf_97_36 ?_
  refine g_iload_n dX12_put_45 rfl ?_
  refine g_iald dX12_put_46 sh_114 (al_114 hn) (Nat.le_of_ble_eq_true rfl) o2 ?_
  refine g_callVI (n := 1) (As := [aI (h 114 x1)]) (st := [aI x3, aI (h 119 x2), aI x2, aP 119]) dX12_put_47 ml_X12_328 sh_97 rfl (al_97 hn) rfl rfl (Nat.le_of_ble_eq_true rfl) (RtI.mono w (fun r1 h1 w => ?_))
  refine g_imul dX12_put_50 ?_
  refine g_iadd dX12_put_51 ?_
  refine g_iast dX12_put_52 sh_119 (al_119 hn) (Nat.le_of_ble_eq_true rfl) o1 ?_
  exact g_retV dX12_put_53 rfl w
theorem b_X12_rows_48 {l : Launch} {D : Nat} {ζ : ZP} {h : HI} {Q : Int → HI → Prop} {x1 x2 : Int} (hn : 144 ≤ ζ.2.2.2.2) (w : (rg x2) ∧ (rg x1) ∧ (if x1 ≤ x2 then (G l (D + 1) 0 0 mX12_rows (zz ζ) 96 [aP 97, aI x1, aI 0, aU, aU] [] (hu (hu h 97 44 (-1)) 116 0 0) (qI (zz ζ) Q)) else ((0 ≤ x2 ∧ x2 < 60) ∧ G l (D + 1) 0 0 mX12_rows (zz ζ) 48 [aP 97, aI x1, aI (x2 + 1), aU, aU] [] (hu (hu (hu h 117 x2 0) 118 x2 0) 119 x2 0) (qI (zz ζ) Q)))) : G l (D + 1) 0 0 mX12_rows (zz ζ) 48 [aP 97, aI x1, aI x2, aU, aU] [] h (qI (zz ζ) Q) := by
  refine g_iload_n dX12_rows_48 rfl ?_
  refine g_iload_n dX12_rows_49 rfl ?_
  obtain ⟨o1, w⟩ := w
  obtain ⟨o2, w⟩ := w
  refine g_cmp_ge (tgt := 80) dX12_rows_50 rfl o1 o2 ?_
  refine ite_imp (fun w => ?_) (fun w => ?_) w
  · refine g_aload_n dX12_rows_80 rfl ?_
    refine g_iconst dX12_rows_81 ?_
    refine g_putI (J := 44) dX12_rows_82 fl_X12_403 sh_97 (al_97 hn) rfl rfl ?_
    refine g_iconst dX12_rows_85 ?_
    refine g_istore_n (ls' := [aP 97, aI x1, aI 0, aU, aU]) dX12_rows_86 (Nat.le_of_ble_eq_true rfl) rfl rfl ?_
    refine g_aload_n dX12_rows_87 rfl ?_
    refine g_getR dX12_rows_88 fl_X12_87 sh_97 (al_97 hn) (fun _ _ _ => rfl) rf_97_38 ?_
    refine g_iconst dX12_rows_91 ?_
    refine g_iconst dX12_rows_92 ?_
    refine g_iast dX12_rows_93 sh_116 (al_116 hn) (Nat.le_of_ble_eq_true rfl) (by decide) ?_
    refine g_iconst dX12_rows_94 ?_
    refine g_istore_n (ls' := [aP 97, aI x1, aI 0, aI 0, aU]) dX12_rows_95 (Nat.le_of_ble_eq_true rfl) rfl rfl ?_
    exact g_sub (ls' := [aP 97, aI x1, aI 0, aU, aU]) ⟨Or.inr rfl, Or.inr rfl, Or.inr rfl, Or.inl rfl, Or.inl rfl, trivial⟩ w
  · refine g_aload_n dX12_rows_53 rfl ?_
    refine g_getR dX12_rows_54 fl_X12_90 sh_97 (al_97 hn) (fun _ _ _ => rfl) rf_97_39 ?_
    refine g_iload_n dX12_rows_57 rfl ?_
    refine g_iconst dX12_rows_58 ?_
    obtain ⟨o3, w⟩ := w
    refine g_iast dX12_rows_59 sh_117 (al_117 hn) (Nat.le_of_ble_eq_true rfl) o3 ?_
    refine g_aload_n dX12_rows_60 rfl ?_
    refine g_getR dX12_rows_61 fl_X12_93 sh_97 (al_97 hn) (fun _ _ _ => rfl) rf_97_40 ?_
    refine g_iload_n dX12_rows_64 rfl ?_
    refine g_iconst dX12_rows_65 ?_
    refine g_iast dX12_rows_66 sh_118 (al_118 hn) (Nat.le_of_ble_eq_true rfl) o3 ?_
    refine g_aload_n dX12_rows_67 rfl ?_
    refine g_getR dX12_rows_68 fl_X12_96 sh_97 (al_97 hn) (fun _ _ _ => rfl) rf_97_41 ?_
    refine g_iload_n dX12_rows_71 rfl ?_
    refine g_iconst dX12_rows_72 ?_
    refine g_iast dX12_rows_73 sh_119 (al_119 hn) (Nat.le_of_ble_eq_true rfl) o3 ?_
    refine g_iinc (ls' := [aP 97, aI x1, aI (x2 + 1), aU, aU]) dX12_rows_74 rfl (Nat.le_of_ble_eq_true rfl) rfl rfl ?_
    refine g_goto (tgt := 48) dX12_rows_77 rfl ?_
    exact g_sub (ls' := [aP 97, aI x1, aI (x2 + 1), aU, aU]) ⟨Or.inr rfl, Or.inr rfl, Or.inr rfl, Or.inl rfl, Or.inl rfl, trivial⟩ w
theorem b_X12_rows_96 {l : Launch} {D : Nat} {ζ : ZP} {h : HI} {Q : Int → HI → Prop} {x1 x2 : Int} (hn : 144 ≤ ζ.2.2.2.2) (w : (rg x2) ∧ (if x2 < 0 then (G l (D + 1) 0 0 mX12_rows (zz ζ) 310 [aP 97, aU, aU, aU, aI 0] [] (hu (hu (hu h 97 48 (h 97 43)) 97 49 (h 97 45)) 97 50 (h 97 46)) (qI (zz ζ) Q)) else ((rg (h 97 43)) ∧ (if ¬ x2 = (h 97 43) then (G l (D + 1) 0 0 mX12_rows (zz ζ) 136 [aP 97, aI x1, aI x2, aI 0, aI 0] [] h (qI (zz ζ) Q)) else (RtV l D mX12_weigh (zz ζ) [aP 97, aI x1] h (fun h1 => (0 ≤ (x2 + (-1)) ∧ (x2 + (-1)) < 60) ∧ RtV l D mX12_put (zz ζ) [aP 97, aI (x2 + (-1)), aI (h1 115 (x2 + (-1))), aI (-1)] h1 (fun h2 => G l (D + 1) 0 0 mX12_rows (zz ζ) 96 [aP 97, aI x1, aI (x2 + (-1)), aU, aU] [] h2 (qI (zz ζ) Q)))))))) : G l (D + 1) 0 0 mX12_rows (zz ζ) 96 [aP 97, aI x1, aI x2, aU, aU] [] h (qI (zz ζ) Q) := by
  refine g_iload_n dX12_rows_96 rfl ?_
  obtain ⟨o1, w⟩ := w
  refine g_if_lt (tgt := 283) dX12_rows_97 rfl o1 ?_
  refine ite_imp (fun w => ?_) (fun w => ?_) w
  · refine g_aload_n dX12_rows_283 rfl ?_
    refine g_aload_n dX12_rows_284 rfl ?_
    refine g_getI (J := 43) dX12_rows_285 fl_X12_397 sh_97 (al_97 hn) (fun _ _ _ => rfl) rfl ?_
    refine g_putI (J := 48) dX12_rows_288 fl_X12_421 sh_97 (al_97 hn) rfl rfl ?_
    refine g_aload_n dX12_rows_291 rfl ?_
    refine g_aload_n dX12_rows_292 rfl ?_
    refine g_getI (J := 45) dX12_rows_293 fl_X12_406 sh_97 (al_97 hn) (fun _ _ _ => rfl) rfl ?_
    refine g_putI (J := 49) dX12_rows_296 fl_X12_424 sh_97 (al_97 hn) rfl rfl ?_
    refine g_aload_n dX12_rows_299 rfl ?_
    refine g_aload_n dX12_rows_300 rfl ?_
    refine g_getI (J := 46) dX12_rows_301 fl_X12_409 sh_97 (al_97 hn) (fun _ _ _ => rfl) rfl ?_
    refine g_putI (J := 50) dX12_rows_304 fl_X12_427 sh_97 (al_97 hn) rfl rfl ?_
    refine g_iconst dX12_rows_307 ?_
    refine g_istore (ls' := [aP 97, aI x1, aI x2, aU, aI 0]) dX12_rows_308 (Nat.le_of_ble_eq_true rfl) rfl rfl ?_
    exact g_sub (ls' := [aP 97, aU, aU, aU, aI 0]) ⟨Or.inr rfl, Or.inl rfl, Or.inl rfl, Or.inl rfl, Or.inr rfl, trivial⟩ w
  · refine g_iload_n dX12_rows_100 rfl ?_
    refine g_aload_n dX12_rows_101 rfl ?_
    refine g_getI (J := 43) dX12_rows_102 fl_X12_397 sh_97 (al_97 hn) (fun _ _ _ => rfl) rfl ?_
    obtain ⟨o2, w⟩ := w
    refine g_cmp_ne (tgt := 131) dX12_rows_105 rfl o1 o2 ?_
    refine ite_imp (fun w => ?_) (fun w => ?_) w
    · refine g_iconst dX12_rows_131 ?_
      refine g_istore_n (ls' := [aP 97, aI x1, aI x2, aI 0, aU]) dX12_rows_132 (Nat.le_of_ble_eq_true rfl) rfl rfl ?_
      refine g_iconst dX12_rows_133 ?_
      refine g_istore (ls' := [aP 97, aI x1, aI x2, aI 0, aI 0]) dX12_rows_134 (Nat.le_of_ble_eq_true rfl) rfl rfl ?_
      exact g_sub (ls' := [aP 97, aI x1, aI x2, aI 0, aI 0]) ⟨Or.inr rfl, Or.inr rfl, Or.inr rfl, Or.inr rfl, Or.inr rfl, trivial⟩ w
    · refine g_aload_n dX12_rows_108 rfl ?_
      refine g_iload_n dX12_rows_109 rfl ?_
      refine g_callVV (n := 1) (As := [aI x1]) (st := []) dX12_rows_110 ml_X12_415 sh_97 rfl (al_97 hn) rfl rfl (Nat.le_of_ble_eq_true rfl) (RtV.mono w (fun h1 w => ?_))
      refine g_iinc (ls' := [aP 97, aI x1, aI (x2 + (-1)), aU, aU]) dX12_rows_113 rfl (Nat.le_of_ble_eq_true rfl) rfl rfl ?_
      refine g_aload_n dX12_rows_116 rfl ?_
      refine g_iload_n dX12_rows_117 rfl ?_
      refine g_aload_n dX12_rows_118 rfl ?_
      refine g_getR dX12_rows_119 fl_X12_84 sh_97 (al_97 hn) (fun _ _ _ => rfl) rf_97_37 ?_
      refine g_iload_n dX12_rows_122 rfl ?_
      obtain ⟨o3, w⟩ := w
      refine g_iald dX12_rows_123 sh_115 (al_115 hn) (Nat.le_of_ble_eq_true rfl) o3 ?_
      refine g_iconst dX12_rows_124 ?_
      refine g_callVV (n := 3) (As := [aI (x2 + (-1)), aI (h1 115 (x2 + (-1))), aI (-1)]) (st := []) dX12_rows_125 ml_X12_418 sh_97 rfl (al_97 hn) rfl rfl (Nat.le_of_ble_eq_true rfl) (RtV.mono w (fun h2 w => ?_))
      refine g_goto (tgt := 96) dX12_rows_128 rfl ?_
      exact g_sub (ls' := [aP 97, aI x1, aI (x2 + (-1)), aU, aU]) ⟨Or.inr rfl, Or.inr rfl, Or.inr rfl, Or.inl rfl, Or.inl rfl, trivial⟩ w
theorem b_X12_rows_136 {l : Launch} {D : Nat} {ζ : ZP} {h : HI} {Q : Int → HI → Prop} {x1 x2 x3 x4 : Int} (hn : 144 ≤ ζ.2.2.2.2) (w : (rg x4) ∧ (rg x2) ∧ (if x2 ≤ x4 then ((0 ≤ x2 ∧ x2 < 60) ∧ (rg (h 116 x2)) ∧ (rg x3) ∧ (if x3 < (h 116 x2) then ((rg (x2 + (-1))) ∧ (if (x2 + (-1)) < 0 then (G l (D + 1) 0 0 mX12_rows (zz ζ) 96 [aP 97, aI x1, aI (x2 + (-1)), aU, aU] [] (hu h 116 x2 ((h 116 x2) + 1)) (qI (zz ζ) Q)) else ((0 ≤ (x2 + (-1)) ∧ (x2 + (-1)) < 60) ∧ RtV l D mX12_put (zz ζ) [aP 97, aI (x2 + (-1)), aI (h 115 (x2 + (-1))), aI (-1)] (hu h 116 x2 ((h 116 x2) + 1)) (fun h1 => G l (D + 1) 0 0 mX12_rows (zz ζ) 96 [aP 97, aI x1, aI (x2 + (-1)), aU, aU] [] h1 (qI (zz ζ) Q))))) else ((rg x1) ∧ (if (h 116 x2) < x1 then ((0 ≤ (h 116 x2) ∧ (h 116 x2) < 60) ∧ (rg (h 97 43)) ∧ (x1 ≠ 0) ∧ (rg (h 117 (h 116 x2))) ∧ (rg ((h 97 43).tdiv x1)) ∧ (if ¬ (h 117 (h 116 x2)) = ((h 97 43).tdiv x1) then (RtV l D mX12_put (zz ζ) [aP 97, aI x2, aI (h 116 x2), aI 1] (hu (hu h 116 x2 ((h 116 x2) + 1)) 115 x2 (h 116 x2)) (fun h2 => (rg (x2 + 1)) ∧ (rg (h2 97 43)) ∧ (if (h2 97 43) ≤ (x2 + 1) then (G l (D + 1) 0 0 mX12_rows (zz ζ) 96 [aP 97, aI x1, aI (x2 + 1), aU, aU] [] h2 (qI (zz ζ) Q)) else ((0 ≤ (x2 + 1) ∧ (x2 + 1) < 60) ∧ G l (D + 1) 0 0 mX12_rows (zz ζ) 96 [aP 97, aI x1, aI (x2 + 1), aU, aU] [] (hu h2 116 (x2 + 1) 0) (qI (zz ζ) Q))))) else (G l (D + 1) 0 0 mX12_rows (zz ζ) 96 [aP 97, aI x1, aI x2, aU, aU] [] (hu h 116 x2 ((h 116 x2) + 1)) (qI (zz ζ) Q)))) else ((rg (x2 + (-1))) ∧ (if (x2 + (-1)) < 0 then (G l (D + 1) 0 0 mX12_rows (zz ζ) 96 [aP 97, aI x1, aI (x2 + (-1)), aU, aU] [] (hu h 116 x2 ((h 116 x2) + 1)) (qI (zz ζ) Q)) else ((0 ≤ (x2 + (-1)) ∧ (x2 + (-1)) < 60) ∧ RtV l D mX12_put (zz ζ) [aP 97, aI (x2 + (-1)), aI (h 115 (x2 + (-1))), aI (-1)] (hu h 116 x2 ((h 116 x2) + 1)) (fun h3 => G l (D + 1) 0 0 mX12_rows (zz ζ) 96 [aP 97, aI x1, aI (x2 + (-1)), aU, aU] [] h3 (qI (zz ζ) Q))))))))) else ((0 ≤ x4 ∧ x4 < 60) ∧ (rg ((h 115 x4) + 1)) ∧ (rg x3) ∧ (if ((h 115 x4) + 1) ≤ x3 then (G l (D + 1) 0 0 mX12_rows (zz ζ) 136 [aP 97, aI x1, aI x2, aI x3, aI (x4 + 1)] [] h (qI (zz ζ) Q)) else (G l (D + 1) 0 0 mX12_rows (zz ζ) 136 [aP 97, aI x1, aI x2, aI ((h 115 x4) + 1), aI (x4 + 1)] [] h (qI (zz ζ) Q)))))) : G l (D + 1) 0 0 mX12_rows (zz ζ) 136 [aP 97, aI x1, aI x2, aI x3, aI x4] [] h (qI (zz ζ) Q) := by
  refine g_iload dX12_rows_136 rfl ?_
  refine g_iload_n dX12_rows_138 rfl ?_
  obtain ⟨o1, w⟩ := w
  obtain ⟨o2, w⟩ := w
  refine g_cmp_ge (tgt := 175) dX12_rows_139 rfl o1 o2 ?_
  refine ite_imp (fun w => ?_) (fun w => ?_) w
  · refine g_aload_n dX12_rows_175 rfl ?_
    refine g_getR dX12_rows_176 fl_X12_87 sh_97 (al_97 hn) (fun _ _ _ => rfl) rf_97_38 ?_
    refine g_iload_n dX12_rows_179 rfl ?_
    obtain ⟨o3, w⟩ := w
    refine g_iald dX12_rows_180 sh_116 (al_116 hn) (Nat.le_of_ble_eq_true rfl) o3 ?_
    refine g_istore (ls' := [aP 97, aI x1, aI x2, aI x3, aI (h 116 x2)]) dX12_rows_181 (Nat.le_of_ble_eq_true rfl) rfl rfl ?_
    refine g_aload_n dX12_rows_183 rfl ?_
    refine g_getR dX12_rows_184 fl_X12_87 sh_97 (al_97 hn) (fun _ _ _ => rfl) rf_97_38 ?_
    refine g_iload_n dX12_rows_187 rfl ?_
    refine g_dup2 dX12_rows_188 rfl rfl ?_
    refine g_iald dX12_rows_189 sh_116 (al_116 hn) (Nat.le_of_ble_eq_true rfl) o3 ?_
    refine g_iconst dX12_rows_190 ?_
    refine g_iadd dX12_rows_191 ?_
    refine g_iast dX12_rows_192 sh_116 (al_116 hn) (Nat.le_of_ble_eq_true rfl) o3 ?_
    refine g_iload dX12_rows_193 rfl ?_
    refine g_iload_n dX12_rows_195 rfl ?_
    obtain ⟨o4, w⟩ := w
    obtain ⟨o5, w⟩ := w
    refine g_cmp_gt (tgt := 205) dX12_rows_196 rfl o4 o5 ?_
    refine ite_imp (fun w => ?_) (fun w => ?_) w
    · refine g_iinc (ls' := [aP 97, aI x1, aI (x2 + (-1)), aI x3, aI (h 116 x2)]) dX12_rows_205 rfl (Nat.le_of_ble_eq_true rfl) rfl rfl ?_
      refine g_iload_n dX12_rows_208 rfl ?_
      obtain ⟨o6, w⟩ := w
      refine g_if_lt (tgt := 96) dX12_rows_209 rfl o6 ?_
      refine ite_imp (fun w => ?_) (fun w => ?_) w
      · exact g_sub (ls' := [aP 97, aI x1, aI (x2 + (-1)), aU, aU]) ⟨Or.inr rfl, Or.inr rfl, Or.inr rfl, Or.inl rfl, Or.inl rfl, trivial⟩ w
      · refine g_aload_n dX12_rows_212 rfl ?_
        refine g_iload_n dX12_rows_213 rfl ?_
        refine g_aload_n dX12_rows_214 rfl ?_
        refine g_getR dX12_rows_215 fl_X12_84 sh_97 (al_97 hn) (fun _ _ _ => rfl) rf_97_37 ?_
        refine g_iload_n dX12_rows_218 rfl ?_
        obtain ⟨o7, w⟩ := w
        refine g_iald dX12_rows_219 sh_115 (al_115 hn) (Nat.le_of_ble_eq_true rfl) o7 ?_
        refine g_iconst dX12_rows_220 ?_
        refine g_callVV (n := 3) (As := [aI (x2 + (-1)), aI (h 115 (x2 + (-1))), aI (-1)]) (st := []) dX12_rows_221 ml_X12_418 sh_97 rfl (al_97 hn) rfl rfl (Nat.le_of_ble_eq_true rfl) (RtV.mono w (fun h1 w => ?_))
        refine g_goto (tgt := 96) dX12_rows_224 rfl ?_
        exact g_sub (ls' := [aP 97, aI x1, aI (x2 + (-1)), aU, aU]) ⟨Or.inr rfl, Or.inr rfl, Or.inr rfl, Or.inl rfl, Or.inl rfl, trivial⟩ w
    · refine g_iload dX12_rows_199 rfl ?_
      refine g_iload_n dX12_rows_201 rfl ?_
      obtain ⟨o8, w⟩ := w
      refine g_cmp_lt (tgt := 227) dX12_rows_202 rfl o4 o8 ?_
      refine ite_imp (fun w => ?_) (fun w => ?_) w
      · refine g_aload_n dX12_rows_227 rfl ?_
        refine g_getR dX12_rows_228 fl_X12_90 sh_97 (al_97 hn) (fun _ _ _ => rfl) rf_97_39 ?_
        refine g_iload dX12_rows_231 rfl ?_
        obtain ⟨o9, w⟩ := w
        refine g_iald dX12_rows_233 sh_117 (al_117 hn) (Nat.le_of_ble_eq_true rfl) o9 ?_
        refine g_aload_n dX12_rows_234 rfl ?_
        refine g_getI (J := 43) dX12_rows_235 fl_X12_397 sh_97 (al_97 hn) (fun _ _ _ => rfl) rfl ?_
        refine g_iload_n dX12_rows_238 rfl ?_
        obtain ⟨o10, w⟩ := w
        obtain ⟨o11, w⟩ := w
        refine g_idiv dX12_rows_239 o10 o8 o11 ?_
        obtain ⟨o12, w⟩ := w
        obtain ⟨o13, w⟩ := w
        refine g_cmp_ne (tgt := 246) dX12_rows_240 rfl o12 o13 ?_
        refine ite_imp (fun w => ?_) (fun w => ?_) w
        · refine g_aload_n dX12_rows_246 rfl ?_
          refine g_getR dX12_rows_247 fl_X12_84 sh_97 (al_97 hn) (fun _ _ _ => rfl) rf_97_37 ?_
          refine g_iload_n dX12_rows_250 rfl ?_
          refine g_iload dX12_rows_251 rfl ?_
          refine g_iast dX12_rows_253 sh_115 (al_115 hn) (Nat.le_of_ble_eq_true rfl) o3 ?_
          refine g_aload_n dX12_rows_254 rfl ?_
          refine g_iload_n dX12_rows_255 rfl ?_
          refine g_iload dX12_rows_256 rfl ?_
          refine g_iconst dX12_rows_258 ?_
          refine g_callVV (n := 3) (As := [aI x2, aI (h 116 x2), aI 1]) (st := []) dX12_rows_259 ml_X12_418 sh_97 rfl (al_97 hn) rfl rfl (Nat.le_of_ble_eq_true rfl) (RtV.mono w (fun h2 w => ?_))
          refine g_iinc (ls' := [aP 97, aI x1, aI (x2 + 1), aI x3, aI (h 116 x2)]) dX12_rows_262 rfl (Nat.le_of_ble_eq_true rfl) rfl rfl ?_
          refine g_iload_n dX12_rows_265 rfl ?_
          refine g_aload_n dX12_rows_266 rfl ?_
          refine g_getI (J := 43) dX12_rows_267 fl_X12_397 sh_97 (al_97 hn) (fun _ _ _ => rfl) rfl ?_
          obtain ⟨o14, w⟩ := w
          obtain ⟨o15, w⟩ := w
          refine g_cmp_ge (tgt := 280) dX12_rows_270 rfl o14 o15 ?_
          refine ite_imp (fun w => ?_) (fun w => ?_) w
          · refine g_goto (tgt := 96) dX12_rows_280 rfl ?_
            exact g_sub (ls' := [aP 97, aI x1, aI (x2 + 1), aU, aU]) ⟨Or.inr rfl, Or.inr rfl, Or.inr rfl, Or.inl rfl, Or.inl rfl, trivial⟩ w
          · refine g_aload_n dX12_rows_273 rfl ?_
            refine g_getR dX12_rows_274 fl_X12_87 sh_97 (al_97 hn) (fun _ _ _ => rfl) rf_97_38 ?_
            refine g_iload_n dX12_rows_277 rfl ?_
            refine g_iconst dX12_rows_278 ?_
            obtain ⟨o16, w⟩ := w
            refine g_iast dX12_rows_279 sh_116 (al_116 hn) (Nat.le_of_ble_eq_true rfl) o16 ?_
            refine g_goto (tgt := 96) dX12_rows_280 rfl ?_
            exact g_sub (ls' := [aP 97, aI x1, aI (x2 + 1), aU, aU]) ⟨Or.inr rfl, Or.inr rfl, Or.inr rfl, Or.inl rfl, Or.inl rfl, trivial⟩ w
        · refine g_goto (tgt := 96) dX12_rows_243 rfl ?_
          exact g_sub (ls' := [aP 97, aI x1, aI x2, aU, aU]) ⟨Or.inr rfl, Or.inr rfl, Or.inr rfl, Or.inl rfl, Or.inl rfl, trivial⟩ w
      · refine g_iinc (ls' := [aP 97, aI x1, aI (x2 + (-1)), aI x3, aI (h 116 x2)]) dX12_rows_205 rfl (Nat.le_of_ble_eq_true rfl) rfl rfl ?_
        refine g_iload_n dX12_rows_208 rfl ?_
        obtain ⟨o17, w⟩ := w
        refine g_if_lt (tgt := 96) dX12_rows_209 rfl o17 ?_
        refine ite_imp (fun w => ?_) (fun w => ?_) w
        · exact g_sub (ls' := [aP 97, aI x1, aI (x2 + (-1)), aU, aU]) ⟨Or.inr rfl, Or.inr rfl, Or.inr rfl, Or.inl rfl, Or.inl rfl, trivial⟩ w
        · refine g_aload_n dX12_rows_212 rfl ?_
          refine g_iload_n dX12_rows_213 rfl ?_
          refine g_aload_n dX12_rows_214 rfl ?_
          refine g_getR dX12_rows_215 fl_X12_84 sh_97 (al_97 hn) (fun _ _ _ => rfl) rf_97_37 ?_
          refine g_iload_n dX12_rows_218 rfl ?_
          obtain ⟨o18, w⟩ := w
          refine g_iald dX12_rows_219 sh_115 (al_115 hn) (Nat.le_of_ble_eq_true rfl) o18 ?_
          refine g_iconst dX12_rows_220 ?_
          refine g_callVV (n := 3) (As := [aI (x2 + (-1)), aI (h 115 (x2 + (-1))), aI (-1)]) (st := []) dX12_rows_221 ml_X12_418 sh_97 rfl (al_97 hn) rfl rfl (Nat.le_of_ble_eq_true rfl) (RtV.mono w (fun h3 w => ?_))
          refine g_goto (tgt := 96) dX12_rows_224 rfl ?_
          exact g_sub (ls' := [aP 97, aI x1, aI (x2 + (-1)), aU, aU]) ⟨Or.inr rfl, Or.inr rfl, Or.inr rfl, Or.inl rfl, Or.inl rfl, trivial⟩ w
  · refine g_aload_n dX12_rows_142 rfl ?_
    refine g_getR dX12_rows_143 fl_X12_84 sh_97 (al_97 hn) (fun _ _ _ => rfl) rf_97_37 ?_
    refine g_iload dX12_rows_146 rfl ?_
    obtain ⟨o19, w⟩ := w
    refine g_iald dX12_rows_148 sh_115 (al_115 hn) (Nat.le_of_ble_eq_true rfl) o19 ?_
    refine g_iconst dX12_rows_149 ?_
    refine g_iadd dX12_rows_150 ?_
    refine g_iload_n dX12_rows_151 rfl ?_
    obtain ⟨o20, w⟩ := w
    obtain ⟨o21, w⟩ := w
    refine g_cmp_le (tgt := 167) dX12_rows_152 rfl o20 o21 ?_
    refine ite_imp (fun w => ?_) (fun w => ?_) w
    · refine g_iload_n dX12_rows_167 rfl ?_
      refine g_istore_n (ls' := [aP 97, aI x1, aI x2, aI x3, aI x4]) dX12_rows_168 (Nat.le_of_ble_eq_true rfl) rfl rfl ?_
      refine g_iinc (ls' := [aP 97, aI x1, aI x2, aI x3, aI (x4 + 1)]) dX12_rows_169 rfl (Nat.le_of_ble_eq_true rfl) rfl rfl ?_
      refine g_goto (tgt := 136) dX12_rows_172 rfl ?_
      exact g_sub (ls' := [aP 97, aI x1, aI x2, aI x3, aI (x4 + 1)]) ⟨Or.inr rfl, Or.inr rfl, Or.inr rfl, Or.inr rfl, Or.inr rfl, trivial⟩ w
    · refine g_aload_n dX12_rows_155 rfl ?_
      refine g_getR dX12_rows_156 fl_X12_84 sh_97 (al_97 hn) (fun _ _ _ => rfl) rf_97_37 ?_
      refine g_iload dX12_rows_159 rfl ?_
      refine g_iald dX12_rows_161 sh_115 (al_115 hn) (Nat.le_of_ble_eq_true rfl) o19 ?_
      refine g_iconst dX12_rows_162 ?_
      refine g_iadd dX12_rows_163 ?_
      refine g_goto (tgt := 168) dX12_rows_164 rfl ?_
      refine g_istore_n (ls' := [aP 97, aI x1, aI x2, aI ((h 115 x4) + 1), aI x4]) dX12_rows_168 (Nat.le_of_ble_eq_true rfl) rfl rfl ?_
      refine g_iinc (ls' := [aP 97, aI x1, aI x2, aI ((h 115 x4) + 1), aI (x4 + 1)]) dX12_rows_169 rfl (Nat.le_of_ble_eq_true rfl) rfl rfl ?_
      refine g_goto (tgt := 136) dX12_rows_172 rfl ?_
      exact g_sub (ls' := [aP 97, aI x1, aI x2, aI ((h 115 x4) + 1), aI (x4 + 1)]) ⟨Or.inr rfl, Or.inr rfl, Or.inr rfl, Or.inr rfl, Or.inr rfl, trivial⟩ w
theorem b_X12_rows_310 {l : Launch} {D : Nat} {ζ : ZP} {h : HI} {Q : Int → HI → Prop} {x4 : Int} (hn : 144 ≤ ζ.2.2.2.2) (w : (rg x4) ∧ (rg (h 97 43)) ∧ (if (h 97 43) ≤ x4 then (Q (h 97 44) h) else ((0 ≤ x4 ∧ x4 < 60) ∧ (0 ≤ x4 ∧ x4 < 12) ∧ G l (D + 1) 0 0 mX12_rows (zz ζ) 310 [aP 97, aU, aU, aU, aI (x4 + 1)] [] (hu h 121 x4 (h 120 x4)) (qI (zz ζ) Q)))) : G l (D + 1) 0 0 mX12_rows (zz ζ) 310 [aP 97, aU, aU, aU, aI x4] [] h (qI (zz ζ) Q) := by
  refine g_iload dX12_rows_310 rfl ?_
  refine g_aload_n dX12_rows_312 rfl ?_
  refine g_getI (J := 43) dX12_rows_313 fl_X12_397 sh_97 (al_97 hn) (fun _ _ _ => rfl) rfl ?_
  obtain ⟨o1, w⟩ := w
  obtain ⟨o2, w⟩ := w
  refine g_cmp_ge (tgt := 339) dX12_rows_316 rfl o1 o2 ?_
  refine ite_imp (fun w => ?_) (fun w => ?_) w
  · refine g_aload_n dX12_rows_339 rfl ?_
    refine g_getI (J := 44) dX12_rows_340 fl_X12_403 sh_97 (al_97 hn) (fun _ _ _ => rfl) rfl ?_
    exact g_retI dX12_rows_343 rfl w
  · refine g_aload_n dX12_rows_319 rfl ?_
    refine g_getR dX12_rows_320 fl_X12_102 sh_97 (al_97 hn) (fun _ _ _ => rfl) rf_97_47 ?_
    refine g_iload dX12_rows_323 rfl ?_
    refine g_aload_n dX12_rows_325 rfl ?_
    refine g_getR dX12_rows_326 fl_X12_99 sh_97 (al_97 hn) (fun _ _ _ => rfl) rf_97_42 ?_
    refine g_iload dX12_rows_329 rfl ?_
    obtain ⟨o3, w⟩ := w
    refine g_iald dX12_rows_331 sh_120 (al_120 hn) (Nat.le_of_ble_eq_true rfl) o3 ?_
    obtain ⟨o4, w⟩ := w
    refine g_iast dX12_rows_332 sh_121 (al_121 hn) (Nat.le_of_ble_eq_true rfl) o4 ?_
    refine g_iinc (ls' := [aP 97, aU, aU, aU, aI (x4 + 1)]) dX12_rows_333 rfl (Nat.le_of_ble_eq_true rfl) rfl rfl ?_
    refine g_goto (tgt := 310) dX12_rows_336 rfl ?_
    exact g_sub (ls' := [aP 97, aU, aU, aU, aI (x4 + 1)]) ⟨Or.inr rfl, Or.inl rfl, Or.inl rfl, Or.inl rfl, Or.inr rfl, trivial⟩ w
theorem e_X12_rows {l : Launch} {D : Nat} {ζ : ZP} {h : HI} {Q : Int → HI → Prop} {x1 : Int} (hn : 144 ≤ ζ.2.2.2.2) (w : RtV l D mX12_taken (zz ζ) [aP 97, aI 540] (hu h 97 0 0) (fun h1 => RtI l D mX12_tells (zz ζ) [aP 97, aI 2, aI 12] h1 (fun r2 h2 => (rg r2) ∧ (if r2 = 0 then (Q (-1) h2) else ((rg x1) ∧ (if x1 < 1 then (Q (-1) h2) else ((rg (h2 97 43)) ∧ (if (h2 97 43) < x1 then (Q (-1) h2) else ((x1 ≠ 0) ∧ (rg ((h2 97 43).tmod x1)) ∧ (if ((h2 97 43).tmod x1) = 0 then (G l (D + 1) 0 0 mX12_rows (zz ζ) 48 [aP 97, aI x1, aI 0, aU, aU] [] h2 (qI (zz ζ) Q)) else (Q (-1) h2))))))))))) : RtI l (D + 1) mX12_rows (zz ζ) [aP 97, aI x1] h Q := by
  refine RtI.of 3 pn_X12 [aP 97, aI x1, aU, aU, aU] rfl rfl ?_
  refine g_aload_n dX12_rows_0 rfl ?_
  refine g_iconst dX12_rows_1 ?_
  refine g_putI (J := 0) dX12_rows_2 fl_X12_1 sh_97 (al_97 hn) rfl rfl ?_
  refine g_aload_n dX12_rows_5 rfl ?_
  refine g_sipush dX12_rows_6 rfl ?_
  refine g_callVV (n := 1) (As := [aI 540]) (st := []) dX12_rows_9 ml_X12_292 sh_97 rfl (al_97 hn) rfl rfl (Nat.le_of_ble_eq_true rfl) (RtV.mono w (fun h1 w => ?_))
  refine g_aload_n dX12_rows_12 rfl ?_
  refine g_iconst dX12_rows_13 ?_
  refine g_bipush dX12_rows_14 rfl ?_
  refine g_callVI (n := 2) (As := [aI 2, aI 12]) (st := []) dX12_rows_16 ml_X12_412 sh_97 rfl (al_97 hn) rfl rfl (Nat.le_of_ble_eq_true rfl) (RtI.mono w (fun r2 h2 w => ?_))
  obtain ⟨o1, w⟩ := w
  refine g_if_eq (tgt := 44) dX12_rows_19 rfl o1 ?_
  refine ite_imp (fun w => ?_) (fun w => ?_) w
  · refine g_iconst dX12_rows_44 ?_
    exact g_retI dX12_rows_45 rfl w
  · refine g_iload_n dX12_rows_22 rfl ?_
    refine g_iconst dX12_rows_23 ?_
    obtain ⟨o2, w⟩ := w
    refine g_cmp_lt (tgt := 44) dX12_rows_24 rfl o2 (by decide) ?_
    refine ite_imp (fun w => ?_) (fun w => ?_) w
    · refine g_iconst dX12_rows_44 ?_
      exact g_retI dX12_rows_45 rfl w
    · refine g_iload_n dX12_rows_27 rfl ?_
      refine g_aload_n dX12_rows_28 rfl ?_
      refine g_getI (J := 43) dX12_rows_29 fl_X12_397 sh_97 (al_97 hn) (fun _ _ _ => rfl) rfl ?_
      obtain ⟨o3, w⟩ := w
      refine g_cmp_gt (tgt := 44) dX12_rows_32 rfl o2 o3 ?_
      refine ite_imp (fun w => ?_) (fun w => ?_) w
      · refine g_iconst dX12_rows_44 ?_
        exact g_retI dX12_rows_45 rfl w
      · refine g_aload_n dX12_rows_35 rfl ?_
        refine g_getI (J := 43) dX12_rows_36 fl_X12_397 sh_97 (al_97 hn) (fun _ _ _ => rfl) rfl ?_
        refine g_iload_n dX12_rows_39 rfl ?_
        obtain ⟨o4, w⟩ := w
        refine g_irem dX12_rows_40 o3 o2 o4 ?_
        obtain ⟨o5, w⟩ := w
        refine g_if_eq (tgt := 46) dX12_rows_41 rfl o5 ?_
        refine ite_imp (fun w => ?_) (fun w => ?_) w
        · refine g_iconst dX12_rows_46 ?_
          refine g_istore_n (ls' := [aP 97, aI x1, aI 0, aU, aU]) dX12_rows_47 (Nat.le_of_ble_eq_true rfl) rfl rfl ?_
          exact g_sub (ls' := [aP 97, aI x1, aI 0, aU, aU]) ⟨Or.inr rfl, Or.inr rfl, Or.inr rfl, Or.inl rfl, Or.inl rfl, trivial⟩ w
        · refine g_iconst dX12_rows_44 ?_
          exact g_retI dX12_rows_45 rfl w
theorem e_X12_rowAt {l : Launch} {D : Nat} {ζ : ZP} {h : HI} {Q : Int → HI → Prop} {x1 : Int} (hn : 144 ≤ ζ.2.2.2.2) (w : RtI l D mX12_isIn (zz ζ) [aI x1, aI 0, aI ((h 97 48) - 1)] (hu h 97 0 0) (fun r1 h1 => (rg r1) ∧ (if r1 = 0 then (Q (-1) h1) else ((0 ≤ x1 ∧ x1 < 12) ∧ Q (h1 121 x1) h1)))) : RtI l (D + 1) mX12_rowAt (zz ζ) [aP 97, aI x1] h Q := by
  refine RtI.of 0 pn_X12 [aP 97, aI x1] rfl rfl ?_
  refine g_aload_n dX12_rowAt_0 rfl ?_
  refine g_iconst dX12_rowAt_1 ?_
  refine g_putI (J := 0) dX12_rowAt_2 fl_X12_1 sh_97 (al_97 hn) rfl rfl ?_
  refine g_iload_n dX12_rowAt_5 rfl ?_
  refine g_iconst dX12_rowAt_6 ?_
  refine g_aload_n dX12_rowAt_7 rfl ?_
  refine g_getI (J := 48) dX12_rowAt_8 fl_X12_421 sh_97 (al_97 hn) (fun _ _ _ => rfl) rfl ?_
  refine g_iconst dX12_rowAt_11 ?_
  refine g_isub dX12_rowAt_12 ?_
  refine g_callSI (n := 3) (As := [aI x1, aI 0, aI ((h 97 48) - 1)]) (st := []) dX12_rowAt_13 ml_X12_262 rfl rfl (Nat.le_of_ble_eq_true rfl) rfl (RtI.mono w (fun r1 h1 w => ?_))
  obtain ⟨o1, w⟩ := w
  refine g_if_eq (tgt := 28) dX12_rowAt_16 rfl o1 ?_
  refine ite_imp (fun w => ?_) (fun w => ?_) w
  · refine g_iconst dX12_rowAt_28 ?_
    exact g_retI dX12_rowAt_29 rfl w
  · refine g_aload_n dX12_rowAt_19 rfl ?_
    refine g_getR dX12_rowAt_20 fl_X12_102 sh_97 (al_97 hn) (fun _ _ _ => rfl) rf_97_47 ?_
    refine g_iload_n dX12_rowAt_23 rfl ?_
    obtain ⟨o2, w⟩ := w
    refine g_iald dX12_rowAt_24 sh_121 (al_121 hn) (Nat.le_of_ble_eq_true rfl) o2 ?_
    refine g_goto (tgt := 29) dX12_rowAt_25 rfl ?_
    exact g_retI dX12_rowAt_29 rfl w
theorem e_X12_rowsBy {l : Launch} {D : Nat} {ζ : ZP} {h : HI} {Q : Int → HI → Prop} {x1 : Int} (hn : 144 ≤ ζ.2.2.2.2) (w : (rg (h 97 48)) ∧ (if ¬ (h 97 48) = 0 then ((rg x1) ∧ (if ¬ x1 = 0 then (if ¬ x1 = 1 then (Q (-1) (hu h 97 0 0)) else (Q (h 97 50) (hu h 97 0 0))) else (Q (h 97 49) (hu h 97 0 0)))) else (Q (-1) (hu h 97 0 0)))) : RtI l (D + 1) mX12_rowsBy (zz ζ) [aP 97, aI x1] h Q := by
  refine RtI.of 0 pn_X12 [aP 97, aI x1] rfl rfl ?_
  refine g_aload_n dX12_rowsBy_0 rfl ?_
  refine g_iconst dX12_rowsBy_1 ?_
  refine g_putI (J := 0) dX12_rowsBy_2 fl_X12_1 sh_97 (al_97 hn) rfl rfl ?_
  refine g_aload_n dX12_rowsBy_5 rfl ?_
  refine g_getI (J := 48) dX12_rowsBy_6 fl_X12_421 sh_97 (al_97 hn) (fun _ _ _ => rfl) rfl ?_
  obtain ⟨o1, w⟩ := w
  refine g_if_ne (tgt := 16) dX12_rowsBy_9 rfl o1 ?_
  refine ite_imp (fun w => ?_) (fun w => ?_) w
  · refine g_iload_n dX12_rowsBy_16 rfl ?_
    obtain ⟨o2, w⟩ := w
    refine g_if_ne (tgt := 27) dX12_rowsBy_17 rfl o2 ?_
    refine ite_imp (fun w => ?_) (fun w => ?_) w
    · refine g_iload_n dX12_rowsBy_27 rfl ?_
      refine g_iconst dX12_rowsBy_28 ?_
      refine g_cmp_ne (tgt := 39) dX12_rowsBy_29 rfl o2 (by decide) ?_
      refine ite_imp (fun w => ?_) (fun w => ?_) w
      · refine g_iconst dX12_rowsBy_39 ?_
        exact g_retI dX12_rowsBy_40 rfl w
      · refine g_aload_n dX12_rowsBy_32 rfl ?_
        refine g_getI (J := 50) dX12_rowsBy_33 fl_X12_427 sh_97 (al_97 hn) (fun _ _ _ => rfl) rfl ?_
        refine g_goto (tgt := 40) dX12_rowsBy_36 rfl ?_
        exact g_retI dX12_rowsBy_40 rfl w
    · refine g_aload_n dX12_rowsBy_20 rfl ?_
      refine g_getI (J := 49) dX12_rowsBy_21 fl_X12_424 sh_97 (al_97 hn) (fun _ _ _ => rfl) rfl ?_
      refine g_goto (tgt := 40) dX12_rowsBy_24 rfl ?_
      exact g_retI dX12_rowsBy_40 rfl w
  · refine g_iconst dX12_rowsBy_12 ?_
    refine g_goto (tgt := 40) dX12_rowsBy_13 rfl ?_
    exact g_retI dX12_rowsBy_40 rfl w
theorem b_X12_weakOf_9 {l : Launch} {D : Nat} {ζ : ZP} {h : HI} {Q : Int → HI → Prop} {x1 x2 x3 : Int} (hn : 144 ≤ ζ.2.2.2.2) (w : (rg x3) ∧ (rg x1) ∧ (if x1 ≤ x3 then (Q x2 h) else ((0 ≤ x3 ∧ x3 < 60) ∧ (rg (h 118 x3)) ∧ (rg x2) ∧ (if x2 ≤ (h 118 x3) then (G l (D + 1) 0 0 mX12_weakOf (zz ζ) 9 [aP 97, aI x1, aI x2, aI (x3 + 1)] [] h (qI (zz ζ) Q)) else (G l (D + 1) 0 0 mX12_weakOf (zz ζ) 9 [aP 97, aI x1, aI (h 118 x3), aI (x3 + 1)] [] h (qI (zz ζ) Q)))))) : G l (D + 1) 0 0 mX12_weakOf (zz ζ) 9 [aP 97, aI x1, aI x2, aI x3] [] h (qI (zz ζ) Q) := by
  refine g_iload_n dX12_weakOf_9 rfl ?_
  refine g_iload_n dX12_weakOf_10 rfl ?_
  obtain ⟨o1, w⟩ := w
  obtain ⟨o2, w⟩ := w
  refine g_cmp_ge (tgt := 41) dX12_weakOf_11 rfl o1 o2 ?_
  refine ite_imp (fun w => ?_) (fun w => ?_) w
  · refine g_iload_n dX12_weakOf_41 rfl ?_
    exact g_retI dX12_weakOf_42 rfl w
  · refine g_aload_n dX12_weakOf_14 rfl ?_
    refine g_getR dX12_weakOf_15 fl_X12_93 sh_97 (al_97 hn) (fun _ _ _ => rfl) rf_97_40 ?_
    refine g_iload_n dX12_weakOf_18 rfl ?_
    obtain ⟨o3, w⟩ := w
    refine g_iald dX12_weakOf_19 sh_118 (al_118 hn) (Nat.le_of_ble_eq_true rfl) o3 ?_
    refine g_iload_n dX12_weakOf_20 rfl ?_
    obtain ⟨o4, w⟩ := w
    obtain ⟨o5, w⟩ := w
    refine g_cmp_ge (tgt := 33) dX12_weakOf_21 rfl o4 o5 ?_
    refine ite_imp (fun w => ?_) (fun w => ?_) w
    · refine g_iload_n dX12_weakOf_33 rfl ?_
      refine g_istore_n (ls' := [aP 97, aI x1, aI x2, aI x3]) dX12_weakOf_34 (Nat.le_of_ble_eq_true rfl) rfl rfl ?_
      refine g_iinc (ls' := [aP 97, aI x1, aI x2, aI (x3 + 1)]) dX12_weakOf_35 rfl (Nat.le_of_ble_eq_true rfl) rfl rfl ?_
      refine g_goto (tgt := 9) dX12_weakOf_38 rfl ?_
      exact g_sub (ls' := [aP 97, aI x1, aI x2, aI (x3 + 1)]) ⟨Or.inr rfl, Or.inr rfl, Or.inr rfl, Or.inr rfl, trivial⟩ w
    · refine g_aload_n dX12_weakOf_24 rfl ?_
      refine g_getR dX12_weakOf_25 fl_X12_93 sh_97 (al_97 hn) (fun _ _ _ => rfl) rf_97_40 ?_
      refine g_iload_n dX12_weakOf_28 rfl ?_
      refine g_iald dX12_weakOf_29 sh_118 (al_118 hn) (Nat.le_of_ble_eq_true rfl) o3 ?_
      refine g_goto (tgt := 34) dX12_weakOf_30 rfl ?_
      refine g_istore_n (ls' := [aP 97, aI x1, aI (h 118 x3), aI x3]) dX12_weakOf_34 (Nat.le_of_ble_eq_true rfl) rfl rfl ?_
      refine g_iinc (ls' := [aP 97, aI x1, aI (h 118 x3), aI (x3 + 1)]) dX12_weakOf_35 rfl (Nat.le_of_ble_eq_true rfl) rfl rfl ?_
      refine g_goto (tgt := 9) dX12_weakOf_38 rfl ?_
      exact g_sub (ls' := [aP 97, aI x1, aI (h 118 x3), aI (x3 + 1)]) ⟨Or.inr rfl, Or.inr rfl, Or.inr rfl, Or.inr rfl, trivial⟩ w
theorem e_X12_weakOf {l : Launch} {D : Nat} {ζ : ZP} {h : HI} {Q : Int → HI → Prop} {x1 : Int} (hn : 144 ≤ ζ.2.2.2.2) (w : G l (D + 1) 0 0 mX12_weakOf (zz ζ) 9 [aP 97, aI x1, aI (h 118 0), aI 1] [] h (qI (zz ζ) Q)) : RtI l (D + 1) mX12_weakOf (zz ζ) [aP 97, aI x1] h Q := by
  refine RtI.of 2 pn_X12 [aP 97, aI x1, aU, aU] rfl rfl ?_
  refine g_aload_n dX12_weakOf_0 rfl ?_
  refine g_getR dX12_weakOf_1 fl_X12_93 sh_97 (al_97 hn) (fun _ _ _ => rfl) rf_97_40 ?_
  refine g_iconst dX12_weakOf_4 ?_
  refine g_iald dX12_weakOf_5 sh_118 (al_118 hn) (Nat.le_of_ble_eq_true rfl) (by decide) ?_
  refine g_istore_n (ls' := [aP 97, aI x1, aI (h 118 0), aU]) dX12_weakOf_6 (Nat.le_of_ble_eq_true rfl) rfl rfl ?_
  refine g_iconst dX12_weakOf_7 ?_
  refine g_istore_n (ls' := [aP 97, aI x1, aI (h 118 0), aI 1]) dX12_weakOf_8 (Nat.le_of_ble_eq_true rfl) rfl rfl ?_
  exact g_sub (ls' := [aP 97, aI x1, aI (h 118 0), aI 1]) ⟨Or.inr rfl, Or.inr rfl, Or.inr rfl, Or.inr rfl, trivial⟩ w
theorem b_X12_strongOf_9 {l : Launch} {D : Nat} {ζ : ZP} {h : HI} {Q : Int → HI → Prop} {x1 x2 x3 : Int} (hn : 144 ≤ ζ.2.2.2.2) (w : (rg x3) ∧ (rg x1) ∧ (if x1 ≤ x3 then (Q x2 h) else ((0 ≤ x3 ∧ x3 < 60) ∧ (rg (h 118 x3)) ∧ (rg x2) ∧ (if (h 118 x3) ≤ x2 then (G l (D + 1) 0 0 mX12_strongOf (zz ζ) 9 [aP 97, aI x1, aI x2, aI (x3 + 1)] [] h (qI (zz ζ) Q)) else (G l (D + 1) 0 0 mX12_strongOf (zz ζ) 9 [aP 97, aI x1, aI (h 118 x3), aI (x3 + 1)] [] h (qI (zz ζ) Q)))))) : G l (D + 1) 0 0 mX12_strongOf (zz ζ) 9 [aP 97, aI x1, aI x2, aI x3] [] h (qI (zz ζ) Q) := by
  refine g_iload_n dX12_strongOf_9 rfl ?_
  refine g_iload_n dX12_strongOf_10 rfl ?_
  obtain ⟨o1, w⟩ := w
  obtain ⟨o2, w⟩ := w
  refine g_cmp_ge (tgt := 41) dX12_strongOf_11 rfl o1 o2 ?_
  refine ite_imp (fun w => ?_) (fun w => ?_) w
  · refine g_iload_n dX12_strongOf_41 rfl ?_
    exact g_retI dX12_strongOf_42 rfl w
  · refine g_aload_n dX12_strongOf_14 rfl ?_
    refine g_getR dX12_strongOf_15 fl_X12_93 sh_97 (al_97 hn) (fun _ _ _ => rfl) rf_97_40 ?_
    refine g_iload_n dX12_strongOf_18 rfl ?_
    obtain ⟨o3, w⟩ := w
    refine g_iald dX12_strongOf_19 sh_118 (al_118 hn) (Nat.le_of_ble_eq_true rfl) o3 ?_
    refine g_iload_n dX12_strongOf_20 rfl ?_
    obtain ⟨o4, w⟩ := w
    obtain ⟨o5, w⟩ := w
    refine g_cmp_le (tgt := 33) dX12_strongOf_21 rfl o4 o5 ?_
    refine ite_imp (fun w => ?_) (fun w => ?_) w
    · refine g_iload_n dX12_strongOf_33 rfl ?_
      refine g_istore_n (ls' := [aP 97, aI x1, aI x2, aI x3]) dX12_strongOf_34 (Nat.le_of_ble_eq_true rfl) rfl rfl ?_
      refine g_iinc (ls' := [aP 97, aI x1, aI x2, aI (x3 + 1)]) dX12_strongOf_35 rfl (Nat.le_of_ble_eq_true rfl) rfl rfl ?_
      refine g_goto (tgt := 9) dX12_strongOf_38 rfl ?_
      exact g_sub (ls' := [aP 97, aI x1, aI x2, aI (x3 + 1)]) ⟨Or.inr rfl, Or.inr rfl, Or.inr rfl, Or.inr rfl, trivial⟩ w
    · refine g_aload_n dX12_strongOf_24 rfl ?_
      refine g_getR dX12_strongOf_25 fl_X12_93 sh_97 (al_97 hn) (fun _ _ _ => rfl) rf_97_40 ?_
      refine g_iload_n dX12_strongOf_28 rfl ?_
      refine g_iald dX12_strongOf_29 sh_118 (al_118 hn) (Nat.le_of_ble_eq_true rfl) o3 ?_
      refine g_goto (tgt := 34) dX12_strongOf_30 rfl ?_
      refine g_istore_n (ls' := [aP 97, aI x1, aI (h 118 x3), aI x3]) dX12_strongOf_34 (Nat.le_of_ble_eq_true rfl) rfl rfl ?_
      refine g_iinc (ls' := [aP 97, aI x1, aI (h 118 x3), aI (x3 + 1)]) dX12_strongOf_35 rfl (Nat.le_of_ble_eq_true rfl) rfl rfl ?_
      refine g_goto (tgt := 9) dX12_strongOf_38 rfl ?_
      exact g_sub (ls' := [aP 97, aI x1, aI (h 118 x3), aI (x3 + 1)]) ⟨Or.inr rfl, Or.inr rfl, Or.inr rfl, Or.inr rfl, trivial⟩ w
theorem e_X12_strongOf {l : Launch} {D : Nat} {ζ : ZP} {h : HI} {Q : Int → HI → Prop} {x1 : Int} (hn : 144 ≤ ζ.2.2.2.2) (w : G l (D + 1) 0 0 mX12_strongOf (zz ζ) 9 [aP 97, aI x1, aI (h 118 0), aI 1] [] h (qI (zz ζ) Q)) : RtI l (D + 1) mX12_strongOf (zz ζ) [aP 97, aI x1] h Q := by
  refine RtI.of 2 pn_X12 [aP 97, aI x1, aU, aU] rfl rfl ?_
  refine g_aload_n dX12_strongOf_0 rfl ?_
  refine g_getR dX12_strongOf_1 fl_X12_93 sh_97 (al_97 hn) (fun _ _ _ => rfl) rf_97_40 ?_
  refine g_iconst dX12_strongOf_4 ?_
  refine g_iald dX12_strongOf_5 sh_118 (al_118 hn) (Nat.le_of_ble_eq_true rfl) (by decide) ?_
  refine g_istore_n (ls' := [aP 97, aI x1, aI (h 118 0), aU]) dX12_strongOf_6 (Nat.le_of_ble_eq_true rfl) rfl rfl ?_
  refine g_iconst dX12_strongOf_7 ?_
  refine g_istore_n (ls' := [aP 97, aI x1, aI (h 118 0), aI 1]) dX12_strongOf_8 (Nat.le_of_ble_eq_true rfl) rfl rfl ?_
  exact g_sub (ls' := [aP 97, aI x1, aI (h 118 0), aI 1]) ⟨Or.inr rfl, Or.inr rfl, Or.inr rfl, Or.inr rfl, trivial⟩ w
theorem e_X12_move {l : Launch} {D : Nat} {ζ : ZP} {h : HI} {Q : HI → Prop} {x1 x2 : Int} (hn : 144 ≤ ζ.2.2.2.2) (w : (0 ≤ x2 ∧ x2 < 60) ∧ (0 ≤ (h 114 x2) ∧ (h 114 x2) < 60) ∧ (0 ≤ x1 ∧ x1 < 60) ∧ (0 ≤ (h 114 x1) ∧ (h 114 x1) < 60) ∧ (0 ≤ (h 115 x1) ∧ (h 115 x1) < 60) ∧ (0 ≤ (h 115 x2) ∧ (h 115 x2) < 60) ∧ Q (hu (hu (hu (hu h 118 (h 115 x1) ((h 118 (h 115 x1)) + ((h 106 (h 114 x2)) - (h 106 (h 114 x1))))) 118 (h 115 x2) (((hu h 118 (h 115 x1) ((h 118 (h 115 x1)) + ((h 106 (h 114 x2)) - (h 106 (h 114 x1))))) 118 (h 115 x2)) - ((h 106 (h 114 x2)) - (h 106 (h 114 x1))))) 115 x1 (h 115 x2)) 115 x2 (h 115 x1))) : RtV l (D + 1) mX12_move (zz ζ) [aP 97, aI x1, aI x2] h Q := by
  refine RtV.of 2 pn_X12 [aP 97, aI x1, aI x2, aU, aU] rfl rfl ?_
  refine g_aload_n dX12_move_0 rfl ?_
  refine g_getR dX12_move_1 fl_X12_57 sh_97 (al_97 hn) (fun _ _ _ => rfl) rf_97_23 ?_
  refine g_aload_n dX12_move_4 rfl ?_
  refine g_getR dX12_move_5 fl_X12_81 sh_97 (al_97 hn) (fun _ _ _ => rfl) rf_97_36 ?_
  refine g_iload_n dX12_move_8 rfl ?_
  obtain ⟨o1, w⟩ := w
  refine g_iald dX12_move_9 sh_114 (al_114 hn) (Nat.le_of_ble_eq_true rfl) o1 ?_
  obtain ⟨o2, w⟩ := w
  refine g_iald dX12_move_10 sh_106 (al_106 hn) (Nat.le_of_ble_eq_true rfl) o2 ?_
  refine g_aload_n dX12_move_11 rfl ?_
  refine g_getR dX12_move_12 fl_X12_57 sh_97 (al_97 hn) (fun _ _ _ => rfl) rf_97_23 ?_
  refine g_aload_n dX12_move_15 rfl ?_
  refine g_getR dX12_move_16 fl_X12_81 sh_97 (al_97 hn) (fun _ _ _ => rfl) rf_97_36 ?_
  refine g_iload_n dX12_move_19 rfl ?_
  obtain ⟨o3, w⟩ := w
  refine g_iald dX12_move_20 sh_114 (al_114 hn) (Nat.le_of_ble_eq_true rfl) o3 ?_
  obtain ⟨o4, w⟩ := w
  refine g_iald dX12_move_21 sh_106 (al_106 hn) (Nat.le_of_ble_eq_true rfl) o4 ?_
  refine g_isub dX12_move_22 ?_
  refine g_istore_n (ls' := [aP 97, aI x1, aI x2, aI ((h 106 (h 114 x2)) - (h 106 (h 114 x1))), aU]) dX12_move_23 (Nat.le_of_ble_eq_true rfl) rfl rfl ?_
  refine g_aload_n dX12_move_24 rfl ?_
  refine g_getR dX12_move_25 fl_X12_93 sh_97 (al_97 hn) (fun _ _ _ => rfl) rf_97_40 ?_
  refine g_aload_n dX12_move_28 rfl ?_
  refine g_getR dX12_move_29 fl_X12_84 sh_97 (al_97 hn) (fun _ _ _ => rfl) rf_97_37 ?_
  refine g_iload_n dX12_move_32 rfl ?_
  refine g_iald dX12_move_33 sh_115 (al_115 hn) (Nat.le_of_ble_eq_true rfl) o3 ?_
  refine g_dup2 dX12_move_34 rfl rfl ?_
  obtain ⟨o5, w⟩ := w
  refine g_iald dX12_move_35 sh_118 (al_118 hn) (Nat.le_of_ble_eq_true rfl) o5 ?_
  refine g_iload_n dX12_move_36 rfl ?_
  refine g_iadd dX12_move_37 ?_
  refine g_iast dX12_move_38 sh_118 (al_118 hn) (Nat.le_of_ble_eq_true rfl) o5 ?_
  refine g_aload_n dX12_move_39 rfl ?_
  refine g_getR dX12_move_40 fl_X12_93 sh_97 (al_97 hn) (fun _ _ _ => rfl) rf_97_40 ?_
  refine g_aload_n dX12_move_43 rfl ?_
  refine g_getR dX12_move_44 fl_X12_84 sh_97 (al_97 hn) (fun _ _ _ => rfl) rf_97_37 ?_
  refine g_iload_n dX12_move_47 rfl ?_
  refine g_iald dX12_move_48 sh_115 (al_115 hn) (Nat.le_of_ble_eq_true rfl) o1 ?_
  refine g_dup2 dX12_move_49 rfl rfl ?_
  obtain ⟨o6, w⟩ := w
  refine g_iald dX12_move_50 sh_118 (al_118 hn) (Nat.le_of_ble_eq_true rfl) o6 ?_
  refine g_iload_n dX12_move_51 rfl ?_
  refine g_isub dX12_move_52 ?_
  refine g_iast dX12_move_53 sh_118 (al_118 hn) (Nat.le_of_ble_eq_true rfl) o6 ?_
  refine g_aload_n dX12_move_54 rfl ?_
  refine g_getR dX12_move_55 fl_X12_84 sh_97 (al_97 hn) (fun _ _ _ => rfl) rf_97_37 ?_
  refine g_iload_n dX12_move_58 rfl ?_
  refine g_iald dX12_move_59 sh_115 (al_115 hn) (Nat.le_of_ble_eq_true rfl) o3 ?_
  refine g_istore (ls' := [aP 97, aI x1, aI x2, aI ((h 106 (h 114 x2)) - (h 106 (h 114 x1))), aI (h 115 x1)]) dX12_move_60 (Nat.le_of_ble_eq_true rfl) rfl rfl ?_
  refine g_aload_n dX12_move_62 rfl ?_
  refine g_getR dX12_move_63 fl_X12_84 sh_97 (al_97 hn) (fun _ _ _ => rfl) rf_97_37 ?_
  refine g_iload_n dX12_move_66 rfl ?_
  refine g_aload_n dX12_move_67 rfl ?_
  refine g_getR dX12_move_68 fl_X12_84 sh_97 (al_97 hn) (fun _ _ _ => rfl) rf_97_37 ?_
  refine g_iload_n dX12_move_71 rfl ?_
  refine g_iald dX12_move_72 sh_115 (al_115 hn) (Nat.le_of_ble_eq_true rfl) o1 ?_
  refine g_iast dX12_move_73 sh_115 (al_115 hn) (Nat.le_of_ble_eq_true rfl) o3 ?_
  refine g_aload_n dX12_move_74 rfl ?_
  refine g_getR dX12_move_75 fl_X12_84 sh_97 (al_97 hn) (fun _ _ _ => rfl) rf_97_37 ?_
  refine g_iload_n dX12_move_78 rfl ?_
  refine g_iload dX12_move_79 rfl ?_
  refine g_iast dX12_move_81 sh_115 (al_115 hn) (Nat.le_of_ble_eq_true rfl) o1 ?_
  exact g_retV dX12_move_82 rfl w
theorem b_X12_swapOne_17 {l : Launch} {D : Nat} {ζ : ZP} {h : HI} {Q : Int → HI → Prop} {x1 x2 x3 x4 : Int} (hn : 144 ≤ ζ.2.2.2.2) (w : (rg x4) ∧ (rg (h 97 43)) ∧ (if (h 97 43) ≤ x4 then (Q 0 h) else (G l (D + 1) 0 0 mX12_swapOne (zz ζ) 32 [aP 97, aI x1, aI x2, aI x3, aI x4, aI (x4 + 1), aU] [] h (qI (zz ζ) Q)))) : G l (D + 1) 0 0 mX12_swapOne (zz ζ) 17 [aP 97, aI x1, aI x2, aI x3, aI x4, aU, aU] [] h (qI (zz ζ) Q) := by
  refine g_iload dX12_swapOne_17 rfl ?_
  refine g_aload_n dX12_swapOne_19 rfl ?_
  refine g_getI (J := 43) dX12_swapOne_20 fl_X12_397 sh_97 (al_97 hn) (fun _ _ _ => rfl) rfl ?_
  obtain ⟨o1, w⟩ := w
  obtain ⟨o2, w⟩ := w
  refine g_cmp_ge (tgt := 122) dX12_swapOne_23 rfl o1 o2 ?_
  refine ite_imp (fun w => ?_) (fun w => ?_) w
  · refine g_iconst dX12_swapOne_122 ?_
    exact g_retZ dX12_swapOne_123 rfl (Or.inl rfl) w
  · refine g_iload dX12_swapOne_26 rfl ?_
    refine g_iconst dX12_swapOne_28 ?_
    refine g_iadd dX12_swapOne_29 ?_
    refine g_istore (ls' := [aP 97, aI x1, aI x2, aI x3, aI x4, aI (x4 + 1), aU]) dX12_swapOne_30 (Nat.le_of_ble_eq_true rfl) rfl rfl ?_
    exact g_sub (ls' := [aP 97, aI x1, aI x2, aI x3, aI x4, aI (x4 + 1), aU]) ⟨Or.inr rfl, Or.inr rfl, Or.inr rfl, Or.inr rfl, Or.inr rfl, Or.inr rfl, Or.inl rfl, trivial⟩ w
theorem b_X12_swapOne_32 {l : Launch} {D : Nat} {ζ : ZP} {h : HI} {Q : Int → HI → Prop} {x1 x2 x3 x4 x5 : Int} (hn : 144 ≤ ζ.2.2.2.2) (w : (rg x5) ∧ (rg (h 97 43)) ∧ (if (h 97 43) ≤ x5 then (G l (D + 1) 0 0 mX12_swapOne (zz ζ) 17 [aP 97, aI x1, aI x2, aI x3, aI (x4 + 1), aU, aU] [] h (qI (zz ζ) Q)) else ((0 ≤ x4 ∧ x4 < 60) ∧ (0 ≤ x5 ∧ x5 < 60) ∧ (rg (h 115 x4)) ∧ (rg (h 115 x5)) ∧ (if ¬ (h 115 x4) = (h 115 x5) then (RtV l D mX12_move (zz ζ) [aP 97, aI x4, aI x5] h (fun h1 => RtI l D mX12_weakOf (zz ζ) [aP 97, aI x1] h1 (fun r2 h2 => (rg r2) ∧ (rg x2) ∧ (if x2 < r2 then (Q 1 h2) else (if ¬ r2 = x2 then (RtV l D mX12_moveBack (zz ζ) [aP 97, aI x4, aI x5] h2 (fun h3 => G l (D + 1) 0 0 mX12_swapOne (zz ζ) 32 [aP 97, aI x1, aI x2, aI x3, aI x4, aI (x5 + 1), aU] [] h3 (qI (zz ζ) Q))) else (RtI l D mX12_strongOf (zz ζ) [aP 97, aI x1] h2 (fun r4 h4 => (rg (r4 - r2)) ∧ (rg x3) ∧ (if x3 ≤ (r4 - r2) then (RtV l D mX12_moveBack (zz ζ) [aP 97, aI x4, aI x5] h4 (fun h5 => G l (D + 1) 0 0 mX12_swapOne (zz ζ) 32 [aP 97, aI x1, aI x2, aI x3, aI x4, aI (x5 + 1), aU] [] h5 (qI (zz ζ) Q))) else (Q 1 h4))))))))) else (G l (D + 1) 0 0 mX12_swapOne (zz ζ) 32 [aP 97, aI x1, aI x2, aI x3, aI x4, aI (x5 + 1), aU] [] h (qI (zz ζ) Q)))))) : G l (D + 1) 0 0 mX12_swapOne (zz ζ) 32 [aP 97, aI x1, aI x2, aI x3, aI x4, aI x5, aU] [] h (qI (zz ζ) Q) := by
  refine g_iload dX12_swapOne_32 rfl ?_
  refine g_aload_n dX12_swapOne_34 rfl ?_
  refine g_getI (J := 43) dX12_swapOne_35 fl_X12_397 sh_97 (al_97 hn) (fun _ _ _ => rfl) rfl ?_
  obtain ⟨o1, w⟩ := w
  obtain ⟨o2, w⟩ := w
  refine g_cmp_ge (tgt := 116) dX12_swapOne_38 rfl o1 o2 ?_
  refine ite_imp (fun w => ?_) (fun w => ?_) w
  · refine g_iinc (ls' := [aP 97, aI x1, aI x2, aI x3, aI (x4 + 1), aI x5, aU]) dX12_swapOne_116 rfl (Nat.le_of_ble_eq_true rfl) rfl rfl ?_
    refine g_goto (tgt := 17) dX12_swapOne_119 rfl ?_
    exact g_sub (ls' := [aP 97, aI x1, aI x2, aI x3, aI (x4 + 1), aU, aU]) ⟨Or.inr rfl, Or.inr rfl, Or.inr rfl, Or.inr rfl, Or.inr rfl, Or.inl rfl, Or.inl rfl, trivial⟩ w
  · refine g_aload_n dX12_swapOne_41 rfl ?_
    refine g_getR dX12_swapOne_42 fl_X12_84 sh_97 (al_97 hn) (fun _ _ _ => rfl) rf_97_37 ?_
    refine g_iload dX12_swapOne_45 rfl ?_
    obtain ⟨o3, w⟩ := w
    refine g_iald dX12_swapOne_47 sh_115 (al_115 hn) (Nat.le_of_ble_eq_true rfl) o3 ?_
    refine g_aload_n dX12_swapOne_48 rfl ?_
    refine g_getR dX12_swapOne_49 fl_X12_84 sh_97 (al_97 hn) (fun _ _ _ => rfl) rf_97_37 ?_
    refine g_iload dX12_swapOne_52 rfl ?_
    obtain ⟨o4, w⟩ := w
    refine g_iald dX12_swapOne_54 sh_115 (al_115 hn) (Nat.le_of_ble_eq_true rfl) o4 ?_
    obtain ⟨o5, w⟩ := w
    obtain ⟨o6, w⟩ := w
    refine g_cmp_ne (tgt := 61) dX12_swapOne_55 rfl o5 o6 ?_
    refine ite_imp (fun w => ?_) (fun w => ?_) w
    · refine g_aload_n dX12_swapOne_61 rfl ?_
      refine g_iload dX12_swapOne_62 rfl ?_
      refine g_iload dX12_swapOne_64 rfl ?_
      refine g_callVV (n := 2) (As := [aI x4, aI x5]) (st := []) dX12_swapOne_66 ml_X12_436 sh_97 rfl (al_97 hn) rfl rfl (Nat.le_of_ble_eq_true rfl) (RtV.mono w (fun h1 w => ?_))
      refine g_aload_n dX12_swapOne_69 rfl ?_
      refine g_iload_n dX12_swapOne_70 rfl ?_
      refine g_callVI (n := 1) (As := [aI x1]) (st := []) dX12_swapOne_71 ml_X12_430 sh_97 rfl (al_97 hn) rfl rfl (Nat.le_of_ble_eq_true rfl) (RtI.mono w (fun r2 h2 w => ?_))
      refine g_istore (ls' := [aP 97, aI x1, aI x2, aI x3, aI x4, aI x5, aI r2]) dX12_swapOne_74 (Nat.le_of_ble_eq_true rfl) rfl rfl ?_
      refine g_iload dX12_swapOne_76 rfl ?_
      refine g_iload_n dX12_swapOne_78 rfl ?_
      obtain ⟨o7, w⟩ := w
      obtain ⟨o8, w⟩ := w
      refine g_cmp_gt (tgt := 100) dX12_swapOne_79 rfl o7 o8 ?_
      refine ite_imp (fun w => ?_) (fun w => ?_) w
      · refine g_iconst dX12_swapOne_100 ?_
        exact g_retZ dX12_swapOne_101 rfl (Or.inr rfl) w
      · refine g_iload dX12_swapOne_82 rfl ?_
        refine g_iload_n dX12_swapOne_84 rfl ?_
        refine g_cmp_ne (tgt := 102) dX12_swapOne_85 rfl o7 o8 ?_
        refine ite_imp (fun w => ?_) (fun w => ?_) w
        · refine g_aload_n dX12_swapOne_102 rfl ?_
          refine g_iload dX12_swapOne_103 rfl ?_
          refine g_iload dX12_swapOne_105 rfl ?_
          refine g_callVV (n := 2) (As := [aI x4, aI x5]) (st := []) dX12_swapOne_107 ml_X12_440 sh_97 rfl (al_97 hn) rfl rfl (Nat.le_of_ble_eq_true rfl) (RtV.mono w (fun h3 w => ?_))
          refine g_iinc (ls' := [aP 97, aI x1, aI x2, aI x3, aI x4, aI (x5 + 1), aI r2]) dX12_swapOne_110 rfl (Nat.le_of_ble_eq_true rfl) rfl rfl ?_
          refine g_goto (tgt := 32) dX12_swapOne_113 rfl ?_
          exact g_sub (ls' := [aP 97, aI x1, aI x2, aI x3, aI x4, aI (x5 + 1), aU]) ⟨Or.inr rfl, Or.inr rfl, Or.inr rfl, Or.inr rfl, Or.inr rfl, Or.inr rfl, Or.inl rfl, trivial⟩ w
        · refine g_aload_n dX12_swapOne_88 rfl ?_
          refine g_iload_n dX12_swapOne_89 rfl ?_
          refine g_callVI (n := 1) (As := [aI x1]) (st := []) dX12_swapOne_90 ml_X12_433 sh_97 rfl (al_97 hn) rfl rfl (Nat.le_of_ble_eq_true rfl) (RtI.mono w (fun r4 h4 w => ?_))
          refine g_iload dX12_swapOne_93 rfl ?_
          refine g_isub dX12_swapOne_95 ?_
          refine g_iload_n dX12_swapOne_96 rfl ?_
          obtain ⟨o9, w⟩ := w
          obtain ⟨o10, w⟩ := w
          refine g_cmp_ge (tgt := 102) dX12_swapOne_97 rfl o9 o10 ?_
          refine ite_imp (fun w => ?_) (fun w => ?_) w
          · refine g_aload_n dX12_swapOne_102 rfl ?_
            refine g_iload dX12_swapOne_103 rfl ?_
            refine g_iload dX12_swapOne_105 rfl ?_
            refine g_callVV (n := 2) (As := [aI x4, aI x5]) (st := []) dX12_swapOne_107 ml_X12_440 sh_97 rfl (al_97 hn) rfl rfl (Nat.le_of_ble_eq_true rfl) (RtV.mono w (fun h5 w => ?_))
            refine g_iinc (ls' := [aP 97, aI x1, aI x2, aI x3, aI x4, aI (x5 + 1), aI r2]) dX12_swapOne_110 rfl (Nat.le_of_ble_eq_true rfl) rfl rfl ?_
            refine g_goto (tgt := 32) dX12_swapOne_113 rfl ?_
            exact g_sub (ls' := [aP 97, aI x1, aI x2, aI x3, aI x4, aI (x5 + 1), aU]) ⟨Or.inr rfl, Or.inr rfl, Or.inr rfl, Or.inr rfl, Or.inr rfl, Or.inr rfl, Or.inl rfl, trivial⟩ w
          · refine g_iconst dX12_swapOne_100 ?_
            exact g_retZ dX12_swapOne_101 rfl (Or.inr rfl) w
    · refine g_goto (tgt := 110) dX12_swapOne_58 rfl ?_
      refine g_iinc (ls' := [aP 97, aI x1, aI x2, aI x3, aI x4, aI (x5 + 1), aU]) dX12_swapOne_110 rfl (Nat.le_of_ble_eq_true rfl) rfl rfl ?_
      refine g_goto (tgt := 32) dX12_swapOne_113 rfl ?_
      exact g_sub (ls' := [aP 97, aI x1, aI x2, aI x3, aI x4, aI (x5 + 1), aU]) ⟨Or.inr rfl, Or.inr rfl, Or.inr rfl, Or.inr rfl, Or.inr rfl, Or.inr rfl, Or.inl rfl, trivial⟩ w
theorem e_X12_swapOne {l : Launch} {D : Nat} {ζ : ZP} {h : HI} {Q : Int → HI → Prop} {x1 : Int} (hn : 144 ≤ ζ.2.2.2.2) (w : RtI l D mX12_weakOf (zz ζ) [aP 97, aI x1] h (fun r1 h1 => RtI l D mX12_strongOf (zz ζ) [aP 97, aI x1] h1 (fun r2 h2 => G l (D + 1) 0 0 mX12_swapOne (zz ζ) 17 [aP 97, aI x1, aI r1, aI (r2 - r1), aI 0, aU, aU] [] h2 (qI (zz ζ) Q)))) : RtI l (D + 1) mX12_swapOne (zz ζ) [aP 97, aI x1] h Q := by
  refine RtI.of 5 pn_X12 [aP 97, aI x1, aU, aU, aU, aU, aU] rfl rfl ?_
  refine g_aload_n dX12_swapOne_0 rfl ?_
  refine g_iload_n dX12_swapOne_1 rfl ?_
  refine g_callVI (n := 1) (As := [aI x1]) (st := []) dX12_swapOne_2 ml_X12_430 sh_97 rfl (al_97 hn) rfl rfl (Nat.le_of_ble_eq_true rfl) (RtI.mono w (fun r1 h1 w => ?_))
  refine g_istore_n (ls' := [aP 97, aI x1, aI r1, aU, aU, aU, aU]) dX12_swapOne_5 (Nat.le_of_ble_eq_true rfl) rfl rfl ?_
  refine g_aload_n dX12_swapOne_6 rfl ?_
  refine g_iload_n dX12_swapOne_7 rfl ?_
  refine g_callVI (n := 1) (As := [aI x1]) (st := []) dX12_swapOne_8 ml_X12_433 sh_97 rfl (al_97 hn) rfl rfl (Nat.le_of_ble_eq_true rfl) (RtI.mono w (fun r2 h2 w => ?_))
  refine g_iload_n dX12_swapOne_11 rfl ?_
  refine g_isub dX12_swapOne_12 ?_
  refine g_istore_n (ls' := [aP 97, aI x1, aI r1, aI (r2 - r1), aU, aU, aU]) dX12_swapOne_13 (Nat.le_of_ble_eq_true rfl) rfl rfl ?_
  refine g_iconst dX12_swapOne_14 ?_
  refine g_istore (ls' := [aP 97, aI x1, aI r1, aI (r2 - r1), aI 0, aU, aU]) dX12_swapOne_15 (Nat.le_of_ble_eq_true rfl) rfl rfl ?_
  exact g_sub (ls' := [aP 97, aI x1, aI r1, aI (r2 - r1), aI 0, aU, aU]) ⟨Or.inr rfl, Or.inr rfl, Or.inr rfl, Or.inr rfl, Or.inr rfl, Or.inl rfl, Or.inl rfl, trivial⟩ w
theorem e_X12_moveBack {l : Launch} {D : Nat} {ζ : ZP} {h : HI} {Q : HI → Prop} {x1 x2 : Int} (hn : 144 ≤ ζ.2.2.2.2) (w : (0 ≤ x1 ∧ x1 < 60) ∧ (0 ≤ (h 114 x1) ∧ (h 114 x1) < 60) ∧ (0 ≤ x2 ∧ x2 < 60) ∧ (0 ≤ (h 114 x2) ∧ (h 114 x2) < 60) ∧ (0 ≤ (h 115 x2) ∧ (h 115 x2) < 60) ∧ (0 ≤ (h 115 x1) ∧ (h 115 x1) < 60) ∧ Q (hu (hu (hu (hu h 118 (h 115 x2) ((h 118 (h 115 x2)) + ((h 106 (h 114 x1)) - (h 106 (h 114 x2))))) 118 (h 115 x1) (((hu h 118 (h 115 x2) ((h 118 (h 115 x2)) + ((h 106 (h 114 x1)) - (h 106 (h 114 x2))))) 118 (h 115 x1)) - ((h 106 (h 114 x1)) - (h 106 (h 114 x2))))) 115 x1 (h 115 x2)) 115 x2 (h 115 x1))) : RtV l (D + 1) mX12_moveBack (zz ζ) [aP 97, aI x1, aI x2] h Q := by
  refine RtV.of 2 pn_X12 [aP 97, aI x1, aI x2, aU, aU] rfl rfl ?_
  refine g_aload_n dX12_moveBack_0 rfl ?_
  refine g_getR dX12_moveBack_1 fl_X12_57 sh_97 (al_97 hn) (fun _ _ _ => rfl) rf_97_23 ?_
  refine g_aload_n dX12_moveBack_4 rfl ?_
  refine g_getR dX12_moveBack_5 fl_X12_81 sh_97 (al_97 hn) (fun _ _ _ => rfl) rf_97_36 ?_
  refine g_iload_n dX12_moveBack_8 rfl ?_
  obtain ⟨o1, w⟩ := w
  refine g_iald dX12_moveBack_9 sh_114 (al_114 hn) (Nat.le_of_ble_eq_true rfl) o1 ?_
  obtain ⟨o2, w⟩ := w
  refine g_iald dX12_moveBack_10 sh_106 (al_106 hn) (Nat.le_of_ble_eq_true rfl) o2 ?_
  refine g_aload_n dX12_moveBack_11 rfl ?_
  refine g_getR dX12_moveBack_12 fl_X12_57 sh_97 (al_97 hn) (fun _ _ _ => rfl) rf_97_23 ?_
  refine g_aload_n dX12_moveBack_15 rfl ?_
  refine g_getR dX12_moveBack_16 fl_X12_81 sh_97 (al_97 hn) (fun _ _ _ => rfl) rf_97_36 ?_
  refine g_iload_n dX12_moveBack_19 rfl ?_
  obtain ⟨o3, w⟩ := w
  refine g_iald dX12_moveBack_20 sh_114 (al_114 hn) (Nat.le_of_ble_eq_true rfl) o3 ?_
  obtain ⟨o4, w⟩ := w
  refine g_iald dX12_moveBack_21 sh_106 (al_106 hn) (Nat.le_of_ble_eq_true rfl) o4 ?_
  refine g_isub dX12_moveBack_22 ?_
  refine g_istore_n (ls' := [aP 97, aI x1, aI x2, aI ((h 106 (h 114 x1)) - (h 106 (h 114 x2))), aU]) dX12_moveBack_23 (Nat.le_of_ble_eq_true rfl) rfl rfl ?_
  refine g_aload_n dX12_moveBack_24 rfl ?_
  refine g_getR dX12_moveBack_25 fl_X12_93 sh_97 (al_97 hn) (fun _ _ _ => rfl) rf_97_40 ?_
  refine g_aload_n dX12_moveBack_28 rfl ?_
  refine g_getR dX12_moveBack_29 fl_X12_84 sh_97 (al_97 hn) (fun _ _ _ => rfl) rf_97_37 ?_
  refine g_iload_n dX12_moveBack_32 rfl ?_
  refine g_iald dX12_moveBack_33 sh_115 (al_115 hn) (Nat.le_of_ble_eq_true rfl) o3 ?_
  refine g_dup2 dX12_moveBack_34 rfl rfl ?_
  obtain ⟨o5, w⟩ := w
  refine g_iald dX12_moveBack_35 sh_118 (al_118 hn) (Nat.le_of_ble_eq_true rfl) o5 ?_
  refine g_iload_n dX12_moveBack_36 rfl ?_
  refine g_iadd dX12_moveBack_37 ?_
  refine g_iast dX12_moveBack_38 sh_118 (al_118 hn) (Nat.le_of_ble_eq_true rfl) o5 ?_
  refine g_aload_n dX12_moveBack_39 rfl ?_
  refine g_getR dX12_moveBack_40 fl_X12_93 sh_97 (al_97 hn) (fun _ _ _ => rfl) rf_97_40 ?_
  refine g_aload_n dX12_moveBack_43 rfl ?_
  refine g_getR dX12_moveBack_44 fl_X12_84 sh_97 (al_97 hn) (fun _ _ _ => rfl) rf_97_37 ?_
  refine g_iload_n dX12_moveBack_47 rfl ?_
  refine g_iald dX12_moveBack_48 sh_115 (al_115 hn) (Nat.le_of_ble_eq_true rfl) o1 ?_
  refine g_dup2 dX12_moveBack_49 rfl rfl ?_
  obtain ⟨o6, w⟩ := w
  refine g_iald dX12_moveBack_50 sh_118 (al_118 hn) (Nat.le_of_ble_eq_true rfl) o6 ?_
  refine g_iload_n dX12_moveBack_51 rfl ?_
  refine g_isub dX12_moveBack_52 ?_
  refine g_iast dX12_moveBack_53 sh_118 (al_118 hn) (Nat.le_of_ble_eq_true rfl) o6 ?_
  refine g_aload_n dX12_moveBack_54 rfl ?_
  refine g_getR dX12_moveBack_55 fl_X12_84 sh_97 (al_97 hn) (fun _ _ _ => rfl) rf_97_37 ?_
  refine g_iload_n dX12_moveBack_58 rfl ?_
  refine g_iald dX12_moveBack_59 sh_115 (al_115 hn) (Nat.le_of_ble_eq_true rfl) o1 ?_
  refine g_istore (ls' := [aP 97, aI x1, aI x2, aI ((h 106 (h 114 x1)) - (h 106 (h 114 x2))), aI (h 115 x1)]) dX12_moveBack_60 (Nat.le_of_ble_eq_true rfl) rfl rfl ?_
  refine g_aload_n dX12_moveBack_62 rfl ?_
  refine g_getR dX12_moveBack_63 fl_X12_84 sh_97 (al_97 hn) (fun _ _ _ => rfl) rf_97_37 ?_
  refine g_iload_n dX12_moveBack_66 rfl ?_
  refine g_aload_n dX12_moveBack_67 rfl ?_
  refine g_getR dX12_moveBack_68 fl_X12_84 sh_97 (al_97 hn) (fun _ _ _ => rfl) rf_97_37 ?_
  refine g_iload_n dX12_moveBack_71 rfl ?_
  refine g_iald dX12_moveBack_72 sh_115 (al_115 hn) (Nat.le_of_ble_eq_true rfl) o3 ?_
  refine g_iast dX12_moveBack_73 sh_115 (al_115 hn) (Nat.le_of_ble_eq_true rfl) o1 ?_
  refine g_aload_n dX12_moveBack_74 rfl ?_
  refine g_getR dX12_moveBack_75 fl_X12_84 sh_97 (al_97 hn) (fun _ _ _ => rfl) rf_97_37 ?_
  refine g_iload_n dX12_moveBack_78 rfl ?_
  refine g_iload dX12_moveBack_79 rfl ?_
  refine g_iast dX12_moveBack_81 sh_115 (al_115 hn) (Nat.le_of_ble_eq_true rfl) o3 ?_
  exact g_retV dX12_moveBack_82 rfl w
theorem b_X12_sort_2 {l : Launch} {D : Nat} {ζ : ZP} {h : HI} {Q : HI → Prop} {x1 : Int} (hn : 144 ≤ ζ.2.2.2.2) (w : (rg x1) ∧ (rg (h 97 43)) ∧ (if (h 97 43) ≤ x1 then (Q h) else (G l (D + 1) 0 0 mX12_sort (zz ζ) 12 [aP 97, aI x1, aI x1] [] h (qV (zz ζ) Q)))) : G l (D + 1) 0 0 mX12_sort (zz ζ) 2 [aP 97, aI x1, aU] [] h (qV (zz ζ) Q) := by
  refine g_iload_n dX12_sort_2 rfl ?_
  refine g_aload_n dX12_sort_3 rfl ?_
  refine g_getI (J := 43) dX12_sort_4 fl_X12_397 sh_97 (al_97 hn) (fun _ _ _ => rfl) rfl ?_
  obtain ⟨o1, w⟩ := w
  obtain ⟨o2, w⟩ := w
  refine g_cmp_ge (tgt := 81) dX12_sort_7 rfl o1 o2 ?_
  refine ite_imp (fun w => ?_) (fun w => ?_) w
  · exact g_retV dX12_sort_81 rfl w
  · refine g_iload_n dX12_sort_10 rfl ?_
    refine g_istore_n (ls' := [aP 97, aI x1, aI x1]) dX12_sort_11 (Nat.le_of_ble_eq_true rfl) rfl rfl ?_
    exact g_sub (ls' := [aP 97, aI x1, aI x1]) ⟨Or.inr rfl, Or.inr rfl, Or.inr rfl, trivial⟩ w
theorem b_X12_sort_12 {l : Launch} {D : Nat} {ζ : ZP} {h : HI} {Q : HI → Prop} {x1 x2 : Int} (hn : 144 ≤ ζ.2.2.2.2) (w : (rg x2) ∧ (if x2 ≤ 0 then ((0 ≤ x2 ∧ x2 < 60) ∧ G l (D + 1) 0 0 mX12_sort (zz ζ) 2 [aP 97, aI (x1 + 1), aU] [] (hu h 123 x2 x1) (qV (zz ζ) Q)) else ((0 ≤ (x2 - 1) ∧ (x2 - 1) < 60) ∧ (0 ≤ (h 123 (x2 - 1)) ∧ (h 123 (x2 - 1)) < 60) ∧ (0 ≤ (h 114 (h 123 (x2 - 1))) ∧ (h 114 (h 123 (x2 - 1))) < 60) ∧ (0 ≤ x1 ∧ x1 < 60) ∧ (0 ≤ (h 114 x1) ∧ (h 114 x1) < 60) ∧ (rg (h 106 (h 114 (h 123 (x2 - 1))))) ∧ (rg (h 106 (h 114 x1))) ∧ (if (h 106 (h 114 x1)) ≤ (h 106 (h 114 (h 123 (x2 - 1)))) then ((0 ≤ x2 ∧ x2 < 60) ∧ G l (D + 1) 0 0 mX12_sort (zz ζ) 2 [aP 97, aI (x1 + 1), aU] [] (hu h 123 x2 x1) (qV (zz ζ) Q)) else ((0 ≤ x2 ∧ x2 < 60) ∧ G l (D + 1) 0 0 mX12_sort (zz ζ) 12 [aP 97, aI x1, aI (x2 + (-1))] [] (hu h 123 x2 (h 123 (x2 - 1))) (qV (zz ζ) Q)))))) : G l (D + 1) 0 0 mX12_sort (zz ζ) 12 [aP 97, aI x1, aI x2] [] h (qV (zz ζ) Q) := by
  refine g_iload_n dX12_sort_12 rfl ?_
  obtain ⟨o1, w⟩ := w
  refine g_if_le (tgt := 68) dX12_sort_13 rfl o1 ?_
  refine ite_imp (fun w => ?_) (fun w => ?_) w
  · refine g_aload_n dX12_sort_68 rfl ?_
    refine g_getR dX12_sort_69 fl_X12_108 sh_97 (al_97 hn) (fun _ _ _ => rfl) rf_97_52 ?_
    refine g_iload_n dX12_sort_72 rfl ?_
    refine g_iload_n dX12_sort_73 rfl ?_
    obtain ⟨o2, w⟩ := w
    refine g_iast dX12_sort_74 sh_123 (al_123 hn) (Nat.le_of_ble_eq_true rfl) o2 ?_
    refine g_iinc (ls' := [aP 97, aI (x1 + 1), aI x2]) dX12_sort_75 rfl (Nat.le_of_ble_eq_true rfl) rfl rfl ?_
    refine g_goto (tgt := 2) dX12_sort_78 rfl ?_
    exact g_sub (ls' := [aP 97, aI (x1 + 1), aU]) ⟨Or.inr rfl, Or.inr rfl, Or.inl rfl, trivial⟩ w
  · refine g_aload_n dX12_sort_16 rfl ?_
    refine g_getR dX12_sort_17 fl_X12_57 sh_97 (al_97 hn) (fun _ _ _ => rfl) rf_97_23 ?_
    refine g_aload_n dX12_sort_20 rfl ?_
    refine g_getR dX12_sort_21 fl_X12_81 sh_97 (al_97 hn) (fun _ _ _ => rfl) rf_97_36 ?_
    refine g_aload_n dX12_sort_24 rfl ?_
    refine g_getR dX12_sort_25 fl_X12_108 sh_97 (al_97 hn) (fun _ _ _ => rfl) rf_97_52 ?_
    refine g_iload_n dX12_sort_28 rfl ?_
    refine g_iconst dX12_sort_29 ?_
    refine g_isub dX12_sort_30 ?_
    obtain ⟨o3, w⟩ := w
    refine g_iald dX12_sort_31 sh_123 (al_123 hn) (Nat.le_of_ble_eq_true rfl) o3 ?_
    obtain ⟨o4, w⟩ := w
    refine g_iald dX12_sort_32 sh_114 (al_114 hn) (Nat.le_of_ble_eq_true rfl) o4 ?_
    obtain ⟨o5, w⟩ := w
    refine g_iald dX12_sort_33 sh_106 (al_106 hn) (Nat.le_of_ble_eq_true rfl) o5 ?_
    refine g_aload_n dX12_sort_34 rfl ?_
    refine g_getR dX12_sort_35 fl_X12_57 sh_97 (al_97 hn) (fun _ _ _ => rfl) rf_97_23 ?_
    refine g_aload_n dX12_sort_38 rfl ?_
    refine g_getR dX12_sort_39 fl_X12_81 sh_97 (al_97 hn) (fun _ _ _ => rfl) rf_97_36 ?_
    refine g_iload_n dX12_sort_42 rfl ?_
    obtain ⟨o6, w⟩ := w
    refine g_iald dX12_sort_43 sh_114 (al_114 hn) (Nat.le_of_ble_eq_true rfl) o6 ?_
    obtain ⟨o7, w⟩ := w
    refine g_iald dX12_sort_44 sh_106 (al_106 hn) (Nat.le_of_ble_eq_true rfl) o7 ?_
    obtain ⟨o8, w⟩ := w
    obtain ⟨o9, w⟩ := w
    refine g_cmp_ge (tgt := 68) dX12_sort_45 rfl o8 o9 ?_
    refine ite_imp (fun w => ?_) (fun w => ?_) w
    · refine g_aload_n dX12_sort_68 rfl ?_
      refine g_getR dX12_sort_69 fl_X12_108 sh_97 (al_97 hn) (fun _ _ _ => rfl) rf_97_52 ?_
      refine g_iload_n dX12_sort_72 rfl ?_
      refine g_iload_n dX12_sort_73 rfl ?_
      obtain ⟨o10, w⟩ := w
      refine g_iast dX12_sort_74 sh_123 (al_123 hn) (Nat.le_of_ble_eq_true rfl) o10 ?_
      refine g_iinc (ls' := [aP 97, aI (x1 + 1), aI x2]) dX12_sort_75 rfl (Nat.le_of_ble_eq_true rfl) rfl rfl ?_
      refine g_goto (tgt := 2) dX12_sort_78 rfl ?_
      exact g_sub (ls' := [aP 97, aI (x1 + 1), aU]) ⟨Or.inr rfl, Or.inr rfl, Or.inl rfl, trivial⟩ w
    · refine g_aload_n dX12_sort_48 rfl ?_
      refine g_getR dX12_sort_49 fl_X12_108 sh_97 (al_97 hn) (fun _ _ _ => rfl) rf_97_52 ?_
      refine g_iload_n dX12_sort_52 rfl ?_
      refine g_aload_n dX12_sort_53 rfl ?_
      refine g_getR dX12_sort_54 fl_X12_108 sh_97 (al_97 hn) (fun _ _ _ => rfl) rf_97_52 ?_
      refine g_iload_n dX12_sort_57 rfl ?_
      refine g_iconst dX12_sort_58 ?_
      refine g_isub dX12_sort_59 ?_
      refine g_iald dX12_sort_60 sh_123 (al_123 hn) (Nat.le_of_ble_eq_true rfl) o3 ?_
      obtain ⟨o11, w⟩ := w
      refine g_iast dX12_sort_61 sh_123 (al_123 hn) (Nat.le_of_ble_eq_true rfl) o11 ?_
      refine g_iinc (ls' := [aP 97, aI x1, aI (x2 + (-1))]) dX12_sort_62 rfl (Nat.le_of_ble_eq_true rfl) rfl rfl ?_
      refine g_goto (tgt := 12) dX12_sort_65 rfl ?_
      exact g_sub (ls' := [aP 97, aI x1, aI (x2 + (-1))]) ⟨Or.inr rfl, Or.inr rfl, Or.inr rfl, trivial⟩ w
theorem e_X12_sort {l : Launch} {D : Nat} {ζ : ZP} {h : HI} {Q : HI → Prop} (hn : 144 ≤ ζ.2.2.2.2) (w : G l (D + 1) 0 0 mX12_sort (zz ζ) 2 [aP 97, aI 0, aU] [] h (qV (zz ζ) Q)) : RtV l (D + 1) mX12_sort (zz ζ) [aP 97] h Q := by
  refine RtV.of 2 pn_X12 [aP 97, aU, aU] rfl rfl ?_
  refine g_iconst dX12_sort_0 ?_
  refine g_istore_n (ls' := [aP 97, aI 0, aU]) dX12_sort_1 (Nat.le_of_ble_eq_true rfl) rfl rfl ?_
  exact g_sub (ls' := [aP 97, aI 0, aU]) ⟨Or.inr rfl, Or.inr rfl, Or.inl rfl, trivial⟩ w
theorem b_X12_swaps_52 {l : Launch} {D : Nat} {ζ : ZP} {h : HI} {Q : Int → HI → Prop} {x1 x2 : Int} (hn : 144 ≤ ζ.2.2.2.2) (w : (rg x2) ∧ (rg x1) ∧ (if x1 ≤ x2 then (G l (D + 1) 0 0 mX12_swaps (zz ζ) 74 [aP 97, aI x1, aI 0, aI 0, aU] [] h (qI (zz ζ) Q)) else ((0 ≤ x2 ∧ x2 < 60) ∧ G l (D + 1) 0 0 mX12_swaps (zz ζ) 52 [aP 97, aI x1, aI (x2 + 1), aU, aU] [] (hu h 118 x2 0) (qI (zz ζ) Q)))) : G l (D + 1) 0 0 mX12_swaps (zz ζ) 52 [aP 97, aI x1, aI x2, aU, aU] [] h (qI (zz ζ) Q) := by
  refine g_iload_n dX12_swaps_52 rfl ?_
  refine g_iload_n dX12_swaps_53 rfl ?_
  obtain ⟨o1, w⟩ := w
  obtain ⟨o2, w⟩ := w
  refine g_cmp_ge (tgt := 70) dX12_swaps_54 rfl o1 o2 ?_
  refine ite_imp (fun w => ?_) (fun w => ?_) w
  · refine g_iconst dX12_swaps_70 ?_
    refine g_istore_n (ls' := [aP 97, aI x1, aI 0, aU, aU]) dX12_swaps_71 (Nat.le_of_ble_eq_true rfl) rfl rfl ?_
    refine g_iconst dX12_swaps_72 ?_
    refine g_istore_n (ls' := [aP 97, aI x1, aI 0, aI 0, aU]) dX12_swaps_73 (Nat.le_of_ble_eq_true rfl) rfl rfl ?_
    exact g_sub (ls' := [aP 97, aI x1, aI 0, aI 0, aU]) ⟨Or.inr rfl, Or.inr rfl, Or.inr rfl, Or.inr rfl, Or.inl rfl, trivial⟩ w
  · refine g_aload_n dX12_swaps_57 rfl ?_
    refine g_getR dX12_swaps_58 fl_X12_93 sh_97 (al_97 hn) (fun _ _ _ => rfl) rf_97_40 ?_
    refine g_iload_n dX12_swaps_61 rfl ?_
    refine g_iconst dX12_swaps_62 ?_
    obtain ⟨o3, w⟩ := w
    refine g_iast dX12_swaps_63 sh_118 (al_118 hn) (Nat.le_of_ble_eq_true rfl) o3 ?_
    refine g_iinc (ls' := [aP 97, aI x1, aI (x2 + 1), aU, aU]) dX12_swaps_64 rfl (Nat.le_of_ble_eq_true rfl) rfl rfl ?_
    refine g_goto (tgt := 52) dX12_swaps_67 rfl ?_
    exact g_sub (ls' := [aP 97, aI x1, aI (x2 + 1), aU, aU]) ⟨Or.inr rfl, Or.inr rfl, Or.inr rfl, Or.inl rfl, Or.inl rfl, trivial⟩ w
theorem b_X12_swaps_74 {l : Launch} {D : Nat} {ζ : ZP} {h : HI} {Q : Int → HI → Prop} {x1 x2 x3 : Int} (hn : 144 ≤ ζ.2.2.2.2) (w : (rg x3) ∧ (rg (h 97 43)) ∧ (if (h 97 43) ≤ x3 then (G l (D + 1) 0 0 mX12_swaps (zz ζ) 174 [aP 97, aI x1, aI x2, aU, aU] [] (hu h 97 55 0) (qI (zz ζ) Q)) else ((rg x1) ∧ (x1 ≠ 0) ∧ (rg (x3.tdiv x1)) ∧ (rg ((x3.tdiv x1).tmod 2)) ∧ (if ¬ ((x3.tdiv x1).tmod 2) = 0 then (G l (D + 1) 0 0 mX12_swaps (zz ζ) 103 [aP 97, aI x1, aI x2, aI x3, aU] [aI ((x1 - 1) - (x3.tmod x1))] h (qI (zz ζ) Q)) else (G l (D + 1) 0 0 mX12_swaps (zz ζ) 103 [aP 97, aI x1, aI x2, aI x3, aU] [aI (x3.tmod x1)] h (qI (zz ζ) Q)))))) : G l (D + 1) 0 0 mX12_swaps (zz ζ) 74 [aP 97, aI x1, aI x2, aI x3, aU] [] h (qI (zz ζ) Q) := by
  refine g_iload_n dX12_swaps_74 rfl ?_
  refine g_aload_n dX12_swaps_75 rfl ?_
  refine g_getI (J := 43) dX12_swaps_76 fl_X12_397 sh_97 (al_97 hn) (fun _ _ _ => rfl) rfl ?_
  obtain ⟨o1, w⟩ := w
  obtain ⟨o2, w⟩ := w
  refine g_cmp_ge (tgt := 169) dX12_swaps_79 rfl o1 o2 ?_
  refine ite_imp (fun w => ?_) (fun w => ?_) w
  · refine g_aload_n dX12_swaps_169 rfl ?_
    refine g_iconst dX12_swaps_170 ?_
    refine g_putI (J := 55) dX12_swaps_171 fl_X12_446 sh_97 (al_97 hn) rfl rfl ?_
    exact g_sub (ls' := [aP 97, aI x1, aI x2, aU, aU]) ⟨Or.inr rfl, Or.inr rfl, Or.inr rfl, Or.inl rfl, Or.inl rfl, trivial⟩ w
  · refine g_iload_n dX12_swaps_82 rfl ?_
    refine g_iload_n dX12_swaps_83 rfl ?_
    obtain ⟨o3, w⟩ := w
    obtain ⟨o4, w⟩ := w
    refine g_idiv dX12_swaps_84 o1 o3 o4 ?_
    refine g_iconst dX12_swaps_85 ?_
    obtain ⟨o5, w⟩ := w
    refine g_irem dX12_swaps_86 o5 (by decide) (by decide) ?_
    obtain ⟨o6, w⟩ := w
    refine g_if_ne (tgt := 96) dX12_swaps_87 rfl o6 ?_
    refine ite_imp (fun w => ?_) (fun w => ?_) w
    · refine g_iload_n dX12_swaps_96 rfl ?_
      refine g_iconst dX12_swaps_97 ?_
      refine g_isub dX12_swaps_98 ?_
      refine g_iload_n dX12_swaps_99 rfl ?_
      refine g_iload_n dX12_swaps_100 rfl ?_
      refine g_irem dX12_swaps_101 o1 o3 o4 ?_
      refine g_isub dX12_swaps_102 ?_
      exact g_sub (ls' := [aP 97, aI x1, aI x2, aI x3, aU]) ⟨Or.inr rfl, Or.inr rfl, Or.inr rfl, Or.inr rfl, Or.inl rfl, trivial⟩ w
    · refine g_iload_n dX12_swaps_90 rfl ?_
      refine g_iload_n dX12_swaps_91 rfl ?_
      refine g_irem dX12_swaps_92 o1 o3 o4 ?_
      refine g_goto (tgt := 103) dX12_swaps_93 rfl ?_
      exact g_sub (ls' := [aP 97, aI x1, aI x2, aI x3, aU]) ⟨Or.inr rfl, Or.inr rfl, Or.inr rfl, Or.inr rfl, Or.inl rfl, trivial⟩ w
theorem b_X12_swaps_103 {l : Launch} {D : Nat} {ζ : ZP} {h : HI} {Q : Int → HI → Prop} {s0 x1 x2 x3 : Int} (hn : 144 ≤ ζ.2.2.2.2) (w : (0 ≤ x3 ∧ x3 < 60) ∧ (0 ≤ (h 123 x3) ∧ (h 123 x3) < 60) ∧ (0 ≤ s0 ∧ s0 < 60) ∧ (0 ≤ (h 114 (h 123 x3)) ∧ (h 114 (h 123 x3)) < 60) ∧ G l (D + 1) 0 0 mX12_swaps (zz ζ) 74 [aP 97, aI x1, aI (x2 + (h 106 (h 114 (h 123 x3)))), aI (x3 + 1), aU] [] (hu (hu h 115 (h 123 x3) s0) 118 s0 ((h 118 s0) + (h 106 (h 114 (h 123 x3))))) (qI (zz ζ) Q)) : G l (D + 1) 0 0 mX12_swaps (zz ζ) 103 [aP 97, aI x1, aI x2, aI x3, aU] [aI s0] h (qI (zz ζ) Q) := by
  refine g_istore (ls' := [aP 97, aI x1, aI x2, aI x3, aI s0]) dX12_swaps_103 (Nat.le_of_ble_eq_true rfl) rfl rfl ?_
  refine g_aload_n dX12_swaps_105 rfl ?_
  refine g_getR dX12_swaps_106 fl_X12_84 sh_97 (al_97 hn) (fun _ _ _ => rfl) rf_97_37 ?_
  refine g_aload_n dX12_swaps_109 rfl ?_
  refine g_getR dX12_swaps_110 fl_X12_108 sh_97 (al_97 hn) (fun _ _ _ => rfl) rf_97_52 ?_
  refine g_iload_n dX12_swaps_113 rfl ?_
  obtain ⟨o1, w⟩ := w
  refine g_iald dX12_swaps_114 sh_123 (al_123 hn) (Nat.le_of_ble_eq_true rfl) o1 ?_
  refine g_iload dX12_swaps_115 rfl ?_
  obtain ⟨o2, w⟩ := w
  refine g_iast dX12_swaps_117 sh_115 (al_115 hn) (Nat.le_of_ble_eq_true rfl) o2 ?_
  refine g_aload_n dX12_swaps_118 rfl ?_
  refine g_getR dX12_swaps_119 fl_X12_93 sh_97 (al_97 hn) (fun _ _ _ => rfl) rf_97_40 ?_
  refine g_iload dX12_swaps_122 rfl ?_
  refine g_dup2 dX12_swaps_124 rfl rfl ?_
  obtain ⟨o3, w⟩ := w
  refine g_iald dX12_swaps_125 sh_118 (al_118 hn) (Nat.le_of_ble_eq_true rfl) o3 ?_
  refine g_aload_n dX12_swaps_126 rfl ?_
  refine g_getR dX12_swaps_127 fl_X12_57 sh_97 (al_97 hn) (fun _ _ _ => rfl) rf_97_23 ?_
  refine g_aload_n dX12_swaps_130 rfl ?_
  refine g_getR dX12_swaps_131 fl_X12_81 sh_97 (al_97 hn) (fun _ _ _ => rfl) rf_97_36 ?_
  refine g_aload_n dX12_swaps_134 rfl ?_
  refine g_getR dX12_swaps_135 fl_X12_108 sh_97 (al_97 hn) (fun _ _ _ => rfl) rf_97_52 ?_
  refine g_iload_n dX12_swaps_138 rfl ?_
  refine g_iald dX12_swaps_139 sh_123 (al_123 hn) (Nat.le_of_ble_eq_true rfl) o1 ?_
  refine g_iald dX12_swaps_140 sh_114 (al_114 hn) (Nat.le_of_ble_eq_true rfl) o2 ?_
  obtain ⟨o4, w⟩ := w
  refine g_iald dX12_swaps_141 sh_106 (al_106 hn) (Nat.le_of_ble_eq_true rfl) o4 ?_
  refine g_iadd dX12_swaps_142 ?_
  refine g_iast dX12_swaps_143 sh_118 (al_118 hn) (Nat.le_of_ble_eq_true rfl) o3 ?_
  refine g_iload_n dX12_swaps_144 rfl ?_
  refine g_aload_n dX12_swaps_145 rfl ?_
  refine g_getR dX12_swaps_146 fl_X12_57 sh_97 (al_97 hn) (fun _ _ _ => rfl) rf_97_23 ?_
  refine g_aload_n dX12_swaps_149 rfl ?_
  refine g_getR dX12_swaps_150 fl_X12_81 sh_97 (al_97 hn) (fun _ _ _ => rfl) rf_97_36 ?_
  refine g_aload_n dX12_swaps_153 rfl ?_
  refine g_getR dX12_swaps_154 fl_X12_108 sh_97 (al_97 hn) (fun _ _ _ => rfl) rf_97_52 ?_
  refine g_iload_n dX12_swaps_157 rfl ?_
  refine g_iald dX12_swaps_158 sh_123 (al_123 hn) (Nat.le_of_ble_eq_true rfl) o1 ?_
  refine g_iald dX12_swaps_159 sh_114 (al_114 hn) (Nat.le_of_ble_eq_true rfl) o2 ?_
  refine g_iald dX12_swaps_160 sh_106 (al_106 hn) (Nat.le_of_ble_eq_true rfl) o4 ?_
  refine g_iadd dX12_swaps_161 ?_
  refine g_istore_n (ls' := [aP 97, aI x1, aI (x2 + (h 106 (h 114 (h 123 x3)))), aI x3, aI s0]) dX12_swaps_162 (Nat.le_of_ble_eq_true rfl) rfl rfl ?_
  refine g_iinc (ls' := [aP 97, aI x1, aI (x2 + (h 106 (h 114 (h 123 x3)))), aI (x3 + 1), aI s0]) dX12_swaps_163 rfl (Nat.le_of_ble_eq_true rfl) rfl rfl ?_
  refine g_goto (tgt := 74) dX12_swaps_166 rfl ?_
  exact g_sub (ls' := [aP 97, aI x1, aI (x2 + (h 106 (h 114 (h 123 x3)))), aI (x3 + 1), aU]) ⟨Or.inr rfl, Or.inr rfl, Or.inr rfl, Or.inr rfl, Or.inl rfl, trivial⟩ w
theorem b_X12_swaps_174 {l : Launch} {D : Nat} {ζ : ZP} {h : HI} {Q : Int → HI → Prop} {x1 x2 : Int} (hn : 144 ≤ ζ.2.2.2.2) (w : (rg (h 97 55)) ∧ (if 500 ≤ (h 97 55) then (G l (D + 1) 0 0 mX12_swaps (zz ζ) 215 [aP 97, aI x1, aI x2, aI 0, aU] [] (hu h 97 53 (h 97 43)) (qI (zz ζ) Q)) else (RtI l D mX12_swapOne (zz ζ) [aP 97, aI x1] h (fun r1 h1 => (rg r1) ∧ (if r1 = 0 then (G l (D + 1) 0 0 mX12_swaps (zz ζ) 215 [aP 97, aI x1, aI x2, aI 0, aU] [] (hu h1 97 53 (h1 97 43)) (qI (zz ζ) Q)) else (G l (D + 1) 0 0 mX12_swaps (zz ζ) 174 [aP 97, aI x1, aI x2, aU, aU] [] (hu h1 97 55 ((h1 97 55) + 1)) (qI (zz ζ) Q))))))) : G l (D + 1) 0 0 mX12_swaps (zz ζ) 174 [aP 97, aI x1, aI x2, aU, aU] [] h (qI (zz ζ) Q) := by
  refine g_aload_n dX12_swaps_174 rfl ?_
  refine g_getI (J := 55) dX12_swaps_175 fl_X12_446 sh_97 (al_97 hn) (fun _ _ _ => rfl) rfl ?_
  refine g_sipush dX12_swaps_178 rfl ?_
  obtain ⟨o1, w⟩ := w
  refine g_cmp_ge (tgt := 205) dX12_swaps_181 rfl o1 (by decide) ?_
  refine ite_imp (fun w => ?_) (fun w => ?_) w
  · refine g_aload_n dX12_swaps_205 rfl ?_
    refine g_aload_n dX12_swaps_206 rfl ?_
    refine g_getI (J := 43) dX12_swaps_207 fl_X12_397 sh_97 (al_97 hn) (fun _ _ _ => rfl) rfl ?_
    refine g_putI (J := 53) dX12_swaps_210 fl_X12_452 sh_97 (al_97 hn) rfl rfl ?_
    refine g_iconst dX12_swaps_213 ?_
    refine g_istore_n (ls' := [aP 97, aI x1, aI x2, aI 0, aU]) dX12_swaps_214 (Nat.le_of_ble_eq_true rfl) rfl rfl ?_
    exact g_sub (ls' := [aP 97, aI x1, aI x2, aI 0, aU]) ⟨Or.inr rfl, Or.inr rfl, Or.inr rfl, Or.inr rfl, Or.inl rfl, trivial⟩ w
  · refine g_aload_n dX12_swaps_184 rfl ?_
    refine g_iload_n dX12_swaps_185 rfl ?_
    refine g_callVI (n := 1) (As := [aI x1]) (st := []) dX12_swaps_186 ml_X12_449 sh_97 rfl (al_97 hn) rfl rfl (Nat.le_of_ble_eq_true rfl) (RtI.mono w (fun r1 h1 w => ?_))
    obtain ⟨o2, w⟩ := w
    refine g_if_eq (tgt := 205) dX12_swaps_189 rfl o2 ?_
    refine ite_imp (fun w => ?_) (fun w => ?_) w
    · refine g_aload_n dX12_swaps_205 rfl ?_
      refine g_aload_n dX12_swaps_206 rfl ?_
      refine g_getI (J := 43) dX12_swaps_207 fl_X12_397 sh_97 (al_97 hn) (fun _ _ _ => rfl) rfl ?_
      refine g_putI (J := 53) dX12_swaps_210 fl_X12_452 sh_97 (al_97 hn) rfl rfl ?_
      refine g_iconst dX12_swaps_213 ?_
      refine g_istore_n (ls' := [aP 97, aI x1, aI x2, aI 0, aU]) dX12_swaps_214 (Nat.le_of_ble_eq_true rfl) rfl rfl ?_
      exact g_sub (ls' := [aP 97, aI x1, aI x2, aI 0, aU]) ⟨Or.inr rfl, Or.inr rfl, Or.inr rfl, Or.inr rfl, Or.inl rfl, trivial⟩ w
    · refine g_aload_n dX12_swaps_192 rfl ?_
      refine g_dup dX12_swaps_193 rfl ?_
      refine g_getI (J := 55) dX12_swaps_194 fl_X12_446 sh_97 (al_97 hn) (fun _ _ _ => rfl) rfl ?_
      refine g_iconst dX12_swaps_197 ?_
      refine g_iadd dX12_swaps_198 ?_
      refine g_putI (J := 55) dX12_swaps_199 fl_X12_446 sh_97 (al_97 hn) rfl rfl ?_
      refine g_goto (tgt := 174) dX12_swaps_202 rfl ?_
      exact g_sub (ls' := [aP 97, aI x1, aI x2, aU, aU]) ⟨Or.inr rfl, Or.inr rfl, Or.inr rfl, Or.inl rfl, Or.inl rfl, trivial⟩ w
theorem b_X12_swaps_215 {l : Launch} {D : Nat} {ζ : ZP} {h : HI} {Q : Int → HI → Prop} {x1 x2 x3 : Int} (hn : 144 ≤ ζ.2.2.2.2) (w : (rg x3) ∧ (rg (h 97 43)) ∧ (if (h 97 43) ≤ x3 then ((rg x2) ∧ (rg x1) ∧ (x1 ≠ 0) ∧ RtI l D mX12_strongOf (zz ζ) [aP 97, aI x1] (hu h 97 54 (x2.tdiv x1)) (fun r1 h1 => RtI l D mX12_weakOf (zz ζ) [aP 97, aI x1] h1 (fun r2 h2 => RtI l D mX12_weakOf (zz ζ) [aP 97, aI x1] (hu h2 97 56 (r1 - r2)) (fun r3 h3 => Q r3 h3)))) else ((0 ≤ x3 ∧ x3 < 60) ∧ (0 ≤ x3 ∧ x3 < 40) ∧ G l (D + 1) 0 0 mX12_swaps (zz ζ) 215 [aP 97, aI x1, aI x2, aI (x3 + 1), aU] [] (hu h 122 x3 (h 115 x3)) (qI (zz ζ) Q)))) : G l (D + 1) 0 0 mX12_swaps (zz ζ) 215 [aP 97, aI x1, aI x2, aI x3, aU] [] h (qI (zz ζ) Q) := by
  refine g_iload_n dX12_swaps_215 rfl ?_
  refine g_aload_n dX12_swaps_216 rfl ?_
  refine g_getI (J := 43) dX12_swaps_217 fl_X12_397 sh_97 (al_97 hn) (fun _ _ _ => rfl) rfl ?_
  obtain ⟨o1, w⟩ := w
  obtain ⟨o2, w⟩ := w
  refine g_cmp_ge (tgt := 241) dX12_swaps_220 rfl o1 o2 ?_
  refine ite_imp (fun w => ?_) (fun w => ?_) w
  · refine g_aload_n dX12_swaps_241 rfl ?_
    refine g_iload_n dX12_swaps_242 rfl ?_
    refine g_iload_n dX12_swaps_243 rfl ?_
    obtain ⟨o3, w⟩ := w
    obtain ⟨o4, w⟩ := w
    obtain ⟨o5, w⟩ := w
    refine g_idiv dX12_swaps_244 o3 o4 o5 ?_
    refine g_putI (J := 54) dX12_swaps_245 fl_X12_455 sh_97 (al_97 hn) rfl rfl ?_
    refine g_aload_n dX12_swaps_248 rfl ?_
    refine g_aload_n dX12_swaps_249 rfl ?_
    refine g_iload_n dX12_swaps_250 rfl ?_
    refine g_callVI (n := 1) (As := [aI x1]) (st := [aP 97]) dX12_swaps_251 ml_X12_433 sh_97 rfl (al_97 hn) rfl rfl (Nat.le_of_ble_eq_true rfl) (RtI.mono w (fun r1 h1 w => ?_))
    refine g_aload_n dX12_swaps_254 rfl ?_
    refine g_iload_n dX12_swaps_255 rfl ?_
    refine g_callVI (n := 1) (As := [aI x1]) (st := [aI r1, aP 97]) dX12_swaps_256 ml_X12_430 sh_97 rfl (al_97 hn) rfl rfl (Nat.le_of_ble_eq_true rfl) (RtI.mono w (fun r2 h2 w => ?_))
    refine g_isub dX12_swaps_259 ?_
    refine g_putI (J := 56) dX12_swaps_260 fl_X12_458 sh_97 (al_97 hn) rfl rfl ?_
    refine g_aload_n dX12_swaps_263 rfl ?_
    refine g_iload_n dX12_swaps_264 rfl ?_
    refine g_callVI (n := 1) (As := [aI x1]) (st := []) dX12_swaps_265 ml_X12_430 sh_97 rfl (al_97 hn) rfl rfl (Nat.le_of_ble_eq_true rfl) (RtI.mono w (fun r3 h3 w => ?_))
    exact g_retI dX12_swaps_268 rfl w
  · refine g_aload_n dX12_swaps_223 rfl ?_
    refine g_getR dX12_swaps_224 fl_X12_105 sh_97 (al_97 hn) (fun _ _ _ => rfl) rf_97_51 ?_
    refine g_iload_n dX12_swaps_227 rfl ?_
    refine g_aload_n dX12_swaps_228 rfl ?_
    refine g_getR dX12_swaps_229 fl_X12_84 sh_97 (al_97 hn) (fun _ _ _ => rfl) rf_97_37 ?_
    refine g_iload_n dX12_swaps_232 rfl ?_
    obtain ⟨o6, w⟩ := w
    refine g_iald dX12_swaps_233 sh_115 (al_115 hn) (Nat.le_of_ble_eq_true rfl) o6 ?_
    obtain ⟨o7, w⟩ := w
    refine g_iast dX12_swaps_234 sh_122 (al_122 hn) (Nat.le_of_ble_eq_true rfl) o7 ?_
    refine g_iinc (ls' := [aP 97, aI x1, aI x2, aI (x3 + 1), aU]) dX12_swaps_235 rfl (Nat.le_of_ble_eq_true rfl) rfl rfl ?_
    refine g_goto (tgt := 215) dX12_swaps_238 rfl ?_
    exact g_sub (ls' := [aP 97, aI x1, aI x2, aI (x3 + 1), aU]) ⟨Or.inr rfl, Or.inr rfl, Or.inr rfl, Or.inr rfl, Or.inl rfl, trivial⟩ w
theorem e_X12_swaps {l : Launch} {D : Nat} {ζ : ZP} {h : HI} {Q : Int → HI → Prop} {x1 : Int} (hn : 144 ≤ ζ.2.2.2.2) (w : RtV l D mX12_taken (zz ζ) [aP 97, aI 540] (hu h 97 0 0) (fun h1 => RtI l D mX12_tells (zz ζ) [aP 97, aI 2, aI 40] h1 (fun r2 h2 => (rg r2) ∧ (if r2 = 0 then (Q (-1) h2) else ((rg x1) ∧ (if x1 < 1 then (Q (-1) h2) else ((rg (h2 97 43)) ∧ (if (h2 97 43) < x1 then (Q (-1) h2) else ((x1 ≠ 0) ∧ (rg ((h2 97 43).tmod x1)) ∧ (if ((h2 97 43).tmod x1) = 0 then (RtV l D mX12_sort (zz ζ) [aP 97] h2 (fun h3 => G l (D + 1) 0 0 mX12_swaps (zz ζ) 52 [aP 97, aI x1, aI 0, aU, aU] [] h3 (qI (zz ζ) Q))) else (Q (-1) h2))))))))))) : RtI l (D + 1) mX12_swaps (zz ζ) [aP 97, aI x1] h Q := by
  refine RtI.of 3 pn_X12 [aP 97, aI x1, aU, aU, aU] rfl rfl ?_
  refine g_aload_n dX12_swaps_0 rfl ?_
  refine g_iconst dX12_swaps_1 ?_
  refine g_putI (J := 0) dX12_swaps_2 fl_X12_1 sh_97 (al_97 hn) rfl rfl ?_
  refine g_aload_n dX12_swaps_5 rfl ?_
  refine g_sipush dX12_swaps_6 rfl ?_
  refine g_callVV (n := 1) (As := [aI 540]) (st := []) dX12_swaps_9 ml_X12_292 sh_97 rfl (al_97 hn) rfl rfl (Nat.le_of_ble_eq_true rfl) (RtV.mono w (fun h1 w => ?_))
  refine g_aload_n dX12_swaps_12 rfl ?_
  refine g_iconst dX12_swaps_13 ?_
  refine g_bipush dX12_swaps_14 rfl ?_
  refine g_callVI (n := 2) (As := [aI 2, aI 40]) (st := []) dX12_swaps_16 ml_X12_412 sh_97 rfl (al_97 hn) rfl rfl (Nat.le_of_ble_eq_true rfl) (RtI.mono w (fun r2 h2 w => ?_))
  obtain ⟨o1, w⟩ := w
  refine g_if_eq (tgt := 44) dX12_swaps_19 rfl o1 ?_
  refine ite_imp (fun w => ?_) (fun w => ?_) w
  · refine g_iconst dX12_swaps_44 ?_
    exact g_retI dX12_swaps_45 rfl w
  · refine g_iload_n dX12_swaps_22 rfl ?_
    refine g_iconst dX12_swaps_23 ?_
    obtain ⟨o2, w⟩ := w
    refine g_cmp_lt (tgt := 44) dX12_swaps_24 rfl o2 (by decide) ?_
    refine ite_imp (fun w => ?_) (fun w => ?_) w
    · refine g_iconst dX12_swaps_44 ?_
      exact g_retI dX12_swaps_45 rfl w
    · refine g_iload_n dX12_swaps_27 rfl ?_
      refine g_aload_n dX12_swaps_28 rfl ?_
      refine g_getI (J := 43) dX12_swaps_29 fl_X12_397 sh_97 (al_97 hn) (fun _ _ _ => rfl) rfl ?_
      obtain ⟨o3, w⟩ := w
      refine g_cmp_gt (tgt := 44) dX12_swaps_32 rfl o2 o3 ?_
      refine ite_imp (fun w => ?_) (fun w => ?_) w
      · refine g_iconst dX12_swaps_44 ?_
        exact g_retI dX12_swaps_45 rfl w
      · refine g_aload_n dX12_swaps_35 rfl ?_
        refine g_getI (J := 43) dX12_swaps_36 fl_X12_397 sh_97 (al_97 hn) (fun _ _ _ => rfl) rfl ?_
        refine g_iload_n dX12_swaps_39 rfl ?_
        obtain ⟨o4, w⟩ := w
        refine g_irem dX12_swaps_40 o3 o2 o4 ?_
        obtain ⟨o5, w⟩ := w
        refine g_if_eq (tgt := 46) dX12_swaps_41 rfl o5 ?_
        refine ite_imp (fun w => ?_) (fun w => ?_) w
        · refine g_aload_n dX12_swaps_46 rfl ?_
          refine g_callVV (n := 0) (As := []) (st := []) dX12_swaps_47 ml_X12_443 sh_97 rfl (al_97 hn) rfl rfl (Nat.le_of_ble_eq_true rfl) (RtV.mono w (fun h3 w => ?_))
          refine g_iconst dX12_swaps_50 ?_
          refine g_istore_n (ls' := [aP 97, aI x1, aI 0, aU, aU]) dX12_swaps_51 (Nat.le_of_ble_eq_true rfl) rfl rfl ?_
          exact g_sub (ls' := [aP 97, aI x1, aI 0, aU, aU]) ⟨Or.inr rfl, Or.inr rfl, Or.inr rfl, Or.inl rfl, Or.inl rfl, trivial⟩ w
        · refine g_iconst dX12_swaps_44 ?_
          exact g_retI dX12_swaps_45 rfl w
theorem e_X12_swapAt {l : Launch} {D : Nat} {ζ : ZP} {h : HI} {Q : Int → HI → Prop} {x1 : Int} (hn : 144 ≤ ζ.2.2.2.2) (w : RtI l D mX12_isIn (zz ζ) [aI x1, aI 0, aI ((h 97 53) - 1)] (hu h 97 0 0) (fun r1 h1 => (rg r1) ∧ (if r1 = 0 then (Q (-1) h1) else ((0 ≤ x1 ∧ x1 < 40) ∧ Q (h1 122 x1) h1)))) : RtI l (D + 1) mX12_swapAt (zz ζ) [aP 97, aI x1] h Q := by
  refine RtI.of 0 pn_X12 [aP 97, aI x1] rfl rfl ?_
  refine g_aload_n dX12_swapAt_0 rfl ?_
  refine g_iconst dX12_swapAt_1 ?_
  refine g_putI (J := 0) dX12_swapAt_2 fl_X12_1 sh_97 (al_97 hn) rfl rfl ?_
  refine g_iload_n dX12_swapAt_5 rfl ?_
  refine g_iconst dX12_swapAt_6 ?_
  refine g_aload_n dX12_swapAt_7 rfl ?_
  refine g_getI (J := 53) dX12_swapAt_8 fl_X12_452 sh_97 (al_97 hn) (fun _ _ _ => rfl) rfl ?_
  refine g_iconst dX12_swapAt_11 ?_
  refine g_isub dX12_swapAt_12 ?_
  refine g_callSI (n := 3) (As := [aI x1, aI 0, aI ((h 97 53) - 1)]) (st := []) dX12_swapAt_13 ml_X12_262 rfl rfl (Nat.le_of_ble_eq_true rfl) rfl (RtI.mono w (fun r1 h1 w => ?_))
  obtain ⟨o1, w⟩ := w
  refine g_if_eq (tgt := 28) dX12_swapAt_16 rfl o1 ?_
  refine ite_imp (fun w => ?_) (fun w => ?_) w
  · refine g_iconst dX12_swapAt_28 ?_
    exact g_retI dX12_swapAt_29 rfl w
  · refine g_aload_n dX12_swapAt_19 rfl ?_
    refine g_getR dX12_swapAt_20 fl_X12_105 sh_97 (al_97 hn) (fun _ _ _ => rfl) rf_97_51 ?_
    refine g_iload_n dX12_swapAt_23 rfl ?_
    obtain ⟨o2, w⟩ := w
    refine g_iald dX12_swapAt_24 sh_122 (al_122 hn) (Nat.le_of_ble_eq_true rfl) o2 ?_
    refine g_goto (tgt := 29) dX12_swapAt_25 rfl ?_
    exact g_retI dX12_swapAt_29 rfl w
theorem e_X12_swapsBy {l : Launch} {D : Nat} {ζ : ZP} {h : HI} {Q : Int → HI → Prop} {x1 : Int} (hn : 144 ≤ ζ.2.2.2.2) (w : (rg (h 97 53)) ∧ (if ¬ (h 97 53) = 0 then ((rg x1) ∧ (if ¬ x1 = 0 then (if ¬ x1 = 1 then (if ¬ x1 = 2 then (Q (-1) (hu h 97 0 0)) else (Q (h 97 56) (hu h 97 0 0))) else (Q (h 97 55) (hu h 97 0 0))) else (Q (h 97 54) (hu h 97 0 0)))) else (Q (-1) (hu h 97 0 0)))) : RtI l (D + 1) mX12_swapsBy (zz ζ) [aP 97, aI x1] h Q := by
  refine RtI.of 0 pn_X12 [aP 97, aI x1] rfl rfl ?_
  refine g_aload_n dX12_swapsBy_0 rfl ?_
  refine g_iconst dX12_swapsBy_1 ?_
  refine g_putI (J := 0) dX12_swapsBy_2 fl_X12_1 sh_97 (al_97 hn) rfl rfl ?_
  refine g_aload_n dX12_swapsBy_5 rfl ?_
  refine g_getI (J := 53) dX12_swapsBy_6 fl_X12_452 sh_97 (al_97 hn) (fun _ _ _ => rfl) rfl ?_
  obtain ⟨o1, w⟩ := w
  refine g_if_ne (tgt := 16) dX12_swapsBy_9 rfl o1 ?_
  refine ite_imp (fun w => ?_) (fun w => ?_) w
  · refine g_iload_n dX12_swapsBy_16 rfl ?_
    obtain ⟨o2, w⟩ := w
    refine g_if_ne (tgt := 27) dX12_swapsBy_17 rfl o2 ?_
    refine ite_imp (fun w => ?_) (fun w => ?_) w
    · refine g_iload_n dX12_swapsBy_27 rfl ?_
      refine g_iconst dX12_swapsBy_28 ?_
      refine g_cmp_ne (tgt := 39) dX12_swapsBy_29 rfl o2 (by decide) ?_
      refine ite_imp (fun w => ?_) (fun w => ?_) w
      · refine g_iload_n dX12_swapsBy_39 rfl ?_
        refine g_iconst dX12_swapsBy_40 ?_
        refine g_cmp_ne (tgt := 51) dX12_swapsBy_41 rfl o2 (by decide) ?_
        refine ite_imp (fun w => ?_) (fun w => ?_) w
        · refine g_iconst dX12_swapsBy_51 ?_
          exact g_retI dX12_swapsBy_52 rfl w
        · refine g_aload_n dX12_swapsBy_44 rfl ?_
          refine g_getI (J := 56) dX12_swapsBy_45 fl_X12_458 sh_97 (al_97 hn) (fun _ _ _ => rfl) rfl ?_
          refine g_goto (tgt := 52) dX12_swapsBy_48 rfl ?_
          exact g_retI dX12_swapsBy_52 rfl w
      · refine g_aload_n dX12_swapsBy_32 rfl ?_
        refine g_getI (J := 55) dX12_swapsBy_33 fl_X12_446 sh_97 (al_97 hn) (fun _ _ _ => rfl) rfl ?_
        refine g_goto (tgt := 52) dX12_swapsBy_36 rfl ?_
        exact g_retI dX12_swapsBy_52 rfl w
    · refine g_aload_n dX12_swapsBy_20 rfl ?_
      refine g_getI (J := 54) dX12_swapsBy_21 fl_X12_455 sh_97 (al_97 hn) (fun _ _ _ => rfl) rfl ?_
      refine g_goto (tgt := 52) dX12_swapsBy_24 rfl ?_
      exact g_retI dX12_swapsBy_52 rfl w
  · refine g_iconst dX12_swapsBy_12 ?_
    refine g_goto (tgt := 52) dX12_swapsBy_13 rfl ?_
    exact g_retI dX12_swapsBy_52 rfl w
theorem b_X12_most_72 {l : Launch} {D : Nat} {ζ : ZP} {h : HI} {Q : Int → HI → Prop} {x1 x2 x3 x4 x5 x6 : Int} (hn : 144 ≤ ζ.2.2.2.2) (w : (rg x2) ∧ (if ¬ x2 = 1 then ((rg x5) ∧ (rg x6) ∧ (if x6 ≤ x5 then ((rg x4) ∧ (rg x1) ∧ (x1 ≠ 0) ∧ Q (x4.tdiv x1) h) else (G l (D + 1) 0 0 mX12_most (zz ζ) 94 [aP 97, aI x1, aI x2, aI x3, aI x4, aI x5, aI x6, aU, aU] [] h (qI (zz ζ) Q)))) else ((rg x5) ∧ (rg x6) ∧ (if x6 < x5 then ((rg x4) ∧ (rg x1) ∧ (x1 ≠ 0) ∧ Q (x4.tdiv x1) h) else (G l (D + 1) 0 0 mX12_most (zz ζ) 94 [aP 97, aI x1, aI x2, aI x3, aI x4, aI x5, aI x6, aU, aU] [] h (qI (zz ζ) Q)))))) : G l (D + 1) 0 0 mX12_most (zz ζ) 72 [aP 97, aI x1, aI x2, aI x3, aI x4, aI x5, aI x6, aU, aU] [] h (qI (zz ζ) Q) := by
  refine g_iload_n dX12_most_72 rfl ?_
  refine g_iconst dX12_most_73 ?_
  obtain ⟨o1, w⟩ := w
  refine g_cmp_ne (tgt := 87) dX12_most_74 rfl o1 (by decide) ?_
  refine ite_imp (fun w => ?_) (fun w => ?_) w
  · refine g_iload dX12_most_87 rfl ?_
    refine g_iload dX12_most_89 rfl ?_
    obtain ⟨o2, w⟩ := w
    obtain ⟨o3, w⟩ := w
    refine g_cmp_ge (tgt := 206) dX12_most_91 rfl o2 o3 ?_
    refine ite_imp (fun w => ?_) (fun w => ?_) w
    · refine g_iload dX12_most_206 rfl ?_
      refine g_iload_n dX12_most_208 rfl ?_
      obtain ⟨o4, w⟩ := w
      obtain ⟨o5, w⟩ := w
      obtain ⟨o6, w⟩ := w
      refine g_idiv dX12_most_209 o4 o5 o6 ?_
      exact g_retI dX12_most_210 rfl w
    · exact g_sub (ls' := [aP 97, aI x1, aI x2, aI x3, aI x4, aI x5, aI x6, aU, aU]) ⟨Or.inr rfl, Or.inr rfl, Or.inr rfl, Or.inr rfl, Or.inr rfl, Or.inr rfl, Or.inr rfl, Or.inl rfl, Or.inl rfl, trivial⟩ w
  · refine g_iload dX12_most_77 rfl ?_
    refine g_iload dX12_most_79 rfl ?_
    obtain ⟨o7, w⟩ := w
    obtain ⟨o8, w⟩ := w
    refine g_cmp_gt (tgt := 206) dX12_most_81 rfl o7 o8 ?_
    refine ite_imp (fun w => ?_) (fun w => ?_) w
    · refine g_iload dX12_most_206 rfl ?_
      refine g_iload_n dX12_most_208 rfl ?_
      obtain ⟨o9, w⟩ := w
      obtain ⟨o10, w⟩ := w
      obtain ⟨o11, w⟩ := w
      refine g_idiv dX12_most_209 o9 o10 o11 ?_
      exact g_retI dX12_most_210 rfl w
    · refine g_goto (tgt := 94) dX12_most_84 rfl ?_
      exact g_sub (ls' := [aP 97, aI x1, aI x2, aI x3, aI x4, aI x5, aI x6, aU, aU]) ⟨Or.inr rfl, Or.inr rfl, Or.inr rfl, Or.inr rfl, Or.inr rfl, Or.inr rfl, Or.inr rfl, Or.inl rfl, Or.inl rfl, trivial⟩ w
theorem b_X12_most_94 {l : Launch} {D : Nat} {ζ : ZP} {h : HI} {Q : Int → HI → Prop} {x1 x2 x3 x4 x5 x6 : Int} (hn : 144 ≤ ζ.2.2.2.2) (w : (0 ≤ x5 ∧ x5 < 60) ∧ (0 ≤ (h 123 x5) ∧ (h 123 x5) < 60) ∧ (0 ≤ (h 114 (h 123 x5)) ∧ (h 114 (h 123 x5)) < 60) ∧ (rg x2) ∧ (if ¬ x2 = 1 then ((0 ≤ x6 ∧ x6 < 60) ∧ (0 ≤ (h 123 x6) ∧ (h 123 x6) < 60) ∧ (0 ≤ (h 114 (h 123 x6)) ∧ (h 114 (h 123 x6)) < 60) ∧ (rg ((h 106 (h 114 (h 123 x5))) + (h 106 (h 114 (h 123 x6))))) ∧ (rg x3) ∧ (if ((h 106 (h 114 (h 123 x5))) + (h 106 (h 114 (h 123 x6)))) < x3 then (G l (D + 1) 0 0 mX12_most (zz ζ) 165 [aP 97, aI x1, aI x2, aI x3, aU, aI x5, aI x6, aU, aI 0] [aI 0, aI x4] h (qI (zz ζ) Q)) else (G l (D + 1) 0 0 mX12_most (zz ζ) 165 [aP 97, aI x1, aI x2, aI x3, aU, aI x5, aI x6, aU, aI 1] [aI 1, aI x4] h (qI (zz ζ) Q)))) else ((rg ((h 106 (h 114 (h 123 x5))) + 0)) ∧ (rg x3) ∧ (if ((h 106 (h 114 (h 123 x5))) + 0) < x3 then (G l (D + 1) 0 0 mX12_most (zz ζ) 165 [aP 97, aI x1, aI x2, aI x3, aU, aI x5, aI x6, aU, aI 0] [aI 0, aI x4] h (qI (zz ζ) Q)) else (G l (D + 1) 0 0 mX12_most (zz ζ) 165 [aP 97, aI x1, aI x2, aI x3, aU, aI x5, aI x6, aU, aI 1] [aI 1, aI x4] h (qI (zz ζ) Q)))))) : G l (D + 1) 0 0 mX12_most (zz ζ) 94 [aP 97, aI x1, aI x2, aI x3, aI x4, aI x5, aI x6, aU, aU] [] h (qI (zz ζ) Q) := by
  refine g_aload_n dX12_most_94 rfl ?_
  refine g_getR dX12_most_95 fl_X12_57 sh_97 (al_97 hn) (fun _ _ _ => rfl) rf_97_23 ?_
  refine g_aload_n dX12_most_98 rfl ?_
  refine g_getR dX12_most_99 fl_X12_81 sh_97 (al_97 hn) (fun _ _ _ => rfl) rf_97_36 ?_
  refine g_aload_n dX12_most_102 rfl ?_
  refine g_getR dX12_most_103 fl_X12_108 sh_97 (al_97 hn) (fun _ _ _ => rfl) rf_97_52 ?_
  refine g_iload dX12_most_106 rfl ?_
  obtain ⟨o1, w⟩ := w
  refine g_iald dX12_most_108 sh_123 (al_123 hn) (Nat.le_of_ble_eq_true rfl) o1 ?_
  obtain ⟨o2, w⟩ := w
  refine g_iald dX12_most_109 sh_114 (al_114 hn) (Nat.le_of_ble_eq_true rfl) o2 ?_
  obtain ⟨o3, w⟩ := w
  refine g_iald dX12_most_110 sh_106 (al_106 hn) (Nat.le_of_ble_eq_true rfl) o3 ?_
  refine g_iload_n dX12_most_111 rfl ?_
  refine g_iconst dX12_most_112 ?_
  obtain ⟨o4, w⟩ := w
  refine g_cmp_ne (tgt := 120) dX12_most_113 rfl o4 (by decide) ?_
  refine ite_imp (fun w => ?_) (fun w => ?_) w
  · refine g_aload_n dX12_most_120 rfl ?_
    refine g_getR dX12_most_121 fl_X12_57 sh_97 (al_97 hn) (fun _ _ _ => rfl) rf_97_23 ?_
    refine g_aload_n dX12_most_124 rfl ?_
    refine g_getR dX12_most_125 fl_X12_81 sh_97 (al_97 hn) (fun _ _ _ => rfl) rf_97_36 ?_
    refine g_aload_n dX12_most_128 rfl ?_
    refine g_getR dX12_most_129 fl_X12_108 sh_97 (al_97 hn) (fun _ _ _ => rfl) rf_97_52 ?_
    refine g_iload dX12_most_132 rfl ?_
    obtain ⟨o5, w⟩ := w
    refine g_iald dX12_most_134 sh_123 (al_123 hn) (Nat.le_of_ble_eq_true rfl) o5 ?_
    obtain ⟨o6, w⟩ := w
    refine g_iald dX12_most_135 sh_114 (al_114 hn) (Nat.le_of_ble_eq_true rfl) o6 ?_
    obtain ⟨o7, w⟩ := w
    refine g_iald dX12_most_136 sh_106 (al_106 hn) (Nat.le_of_ble_eq_true rfl) o7 ?_
    refine g_iadd dX12_most_137 ?_
    refine g_istore (ls' := [aP 97, aI x1, aI x2, aI x3, aI x4, aI x5, aI x6, aI ((h 106 (h 114 (h 123 x5))) + (h 106 (h 114 (h 123 x6)))), aU]) dX12_most_138 (Nat.le_of_ble_eq_true rfl) rfl rfl ?_
    refine g_iload dX12_most_140 rfl ?_
    refine g_iload_n dX12_most_142 rfl ?_
    obtain ⟨o8, w⟩ := w
    obtain ⟨o9, w⟩ := w
    refine g_cmp_lt (tgt := 150) dX12_most_143 rfl o8 o9 ?_
    refine ite_imp (fun w => ?_) (fun w => ?_) w
    · refine g_iconst dX12_most_150 ?_
      refine g_istore (ls' := [aP 97, aI x1, aI x2, aI x3, aI x4, aI x5, aI x6, aI ((h 106 (h 114 (h 123 x5))) + (h 106 (h 114 (h 123 x6)))), aI 0]) dX12_most_151 (Nat.le_of_ble_eq_true rfl) rfl rfl ?_
      refine g_iload dX12_most_153 rfl ?_
      refine g_iload dX12_most_155 rfl ?_
      refine g_if_eq (tgt := 164) dX12_most_157 rfl (by decide) ?_
      rw [if_pos (by decide)]
      refine g_iconst dX12_most_164 ?_
      exact g_sub (ls' := [aP 97, aI x1, aI x2, aI x3, aU, aI x5, aI x6, aU, aI 0]) ⟨Or.inr rfl, Or.inr rfl, Or.inr rfl, Or.inr rfl, Or.inl rfl, Or.inr rfl, Or.inr rfl, Or.inl rfl, Or.inr rfl, trivial⟩ w
    · refine g_iconst dX12_most_146 ?_
      refine g_goto (tgt := 151) dX12_most_147 rfl ?_
      refine g_istore (ls' := [aP 97, aI x1, aI x2, aI x3, aI x4, aI x5, aI x6, aI ((h 106 (h 114 (h 123 x5))) + (h 106 (h 114 (h 123 x6)))), aI 1]) dX12_most_151 (Nat.le_of_ble_eq_true rfl) rfl rfl ?_
      refine g_iload dX12_most_153 rfl ?_
      refine g_iload dX12_most_155 rfl ?_
      refine g_if_eq (tgt := 164) dX12_most_157 rfl (by decide) ?_
      rw [if_neg (by decide)]
      refine g_iconst dX12_most_160 ?_
      refine g_goto (tgt := 165) dX12_most_161 rfl ?_
      exact g_sub (ls' := [aP 97, aI x1, aI x2, aI x3, aU, aI x5, aI x6, aU, aI 1]) ⟨Or.inr rfl, Or.inr rfl, Or.inr rfl, Or.inr rfl, Or.inl rfl, Or.inr rfl, Or.inr rfl, Or.inl rfl, Or.inr rfl, trivial⟩ w
  · refine g_iconst dX12_most_116 ?_
    refine g_goto (tgt := 137) dX12_most_117 rfl ?_
    refine g_iadd dX12_most_137 ?_
    refine g_istore (ls' := [aP 97, aI x1, aI x2, aI x3, aI x4, aI x5, aI x6, aI ((h 106 (h 114 (h 123 x5))) + 0), aU]) dX12_most_138 (Nat.le_of_ble_eq_true rfl) rfl rfl ?_
    refine g_iload dX12_most_140 rfl ?_
    refine g_iload_n dX12_most_142 rfl ?_
    obtain ⟨o10, w⟩ := w
    obtain ⟨o11, w⟩ := w
    refine g_cmp_lt (tgt := 150) dX12_most_143 rfl o10 o11 ?_
    refine ite_imp (fun w => ?_) (fun w => ?_) w
    · refine g_iconst dX12_most_150 ?_
      refine g_istore (ls' := [aP 97, aI x1, aI x2, aI x3, aI x4, aI x5, aI x6, aI ((h 106 (h 114 (h 123 x5))) + 0), aI 0]) dX12_most_151 (Nat.le_of_ble_eq_true rfl) rfl rfl ?_
      refine g_iload dX12_most_153 rfl ?_
      refine g_iload dX12_most_155 rfl ?_
      refine g_if_eq (tgt := 164) dX12_most_157 rfl (by decide) ?_
      rw [if_pos (by decide)]
      refine g_iconst dX12_most_164 ?_
      exact g_sub (ls' := [aP 97, aI x1, aI x2, aI x3, aU, aI x5, aI x6, aU, aI 0]) ⟨Or.inr rfl, Or.inr rfl, Or.inr rfl, Or.inr rfl, Or.inl rfl, Or.inr rfl, Or.inr rfl, Or.inl rfl, Or.inr rfl, trivial⟩ w
    · refine g_iconst dX12_most_146 ?_
      refine g_goto (tgt := 151) dX12_most_147 rfl ?_
      refine g_istore (ls' := [aP 97, aI x1, aI x2, aI x3, aI x4, aI x5, aI x6, aI ((h 106 (h 114 (h 123 x5))) + 0), aI 1]) dX12_most_151 (Nat.le_of_ble_eq_true rfl) rfl rfl ?_
      refine g_iload dX12_most_153 rfl ?_
      refine g_iload dX12_most_155 rfl ?_
      refine g_if_eq (tgt := 164) dX12_most_157 rfl (by decide) ?_
      rw [if_neg (by decide)]
      refine g_iconst dX12_most_160 ?_
      refine g_goto (tgt := 165) dX12_most_161 rfl ?_
      exact g_sub (ls' := [aP 97, aI x1, aI x2, aI x3, aU, aI x5, aI x6, aU, aI 1]) ⟨Or.inr rfl, Or.inr rfl, Or.inr rfl, Or.inr rfl, Or.inl rfl, Or.inr rfl, Or.inr rfl, Or.inl rfl, Or.inr rfl, trivial⟩ w
theorem b_X12_most_165 {l : Launch} {D : Nat} {ζ : ZP} {h : HI} {Q : Int → HI → Prop} {s0 s1 x1 x2 x3 x5 x6 x8 : Int} (hn : 144 ≤ ζ.2.2.2.2) (w : (rg x8) ∧ (if x8 = 0 then ((rg x2) ∧ (if x2 = 2 then (G l (D + 1) 0 0 mX12_most (zz ζ) 72 [aP 97, aI x1, aI x2, aI x3, aI (s1 + s0), aI (x5 + 0), aI (x6 - 1), aU, aU] [] h (qI (zz ζ) Q)) else (if ¬ x8 = 0 then (G l (D + 1) 0 0 mX12_most (zz ζ) 72 [aP 97, aI x1, aI x2, aI x3, aI (s1 + s0), aI (x5 + 0), aI (x6 - 0), aU, aU] [] h (qI (zz ζ) Q)) else (G l (D + 1) 0 0 mX12_most (zz ζ) 72 [aP 97, aI x1, aI x2, aI x3, aI (s1 + s0), aI (x5 + 0), aI (x6 - 1), aU, aU] [] h (qI (zz ζ) Q))))) else ((rg x2) ∧ (if x2 = 2 then (G l (D + 1) 0 0 mX12_most (zz ζ) 72 [aP 97, aI x1, aI x2, aI x3, aI (s1 + s0), aI (x5 + 1), aI (x6 - 1), aU, aU] [] h (qI (zz ζ) Q)) else (if ¬ x8 = 0 then (G l (D + 1) 0 0 mX12_most (zz ζ) 72 [aP 97, aI x1, aI x2, aI x3, aI (s1 + s0), aI (x5 + 1), aI (x6 - 0), aU, aU] [] h (qI (zz ζ) Q)) else (G l (D + 1) 0 0 mX12_most (zz ζ) 72 [aP 97, aI x1, aI x2, aI x3, aI (s1 + s0), aI (x5 + 1), aI (x6 - 1), aU, aU] [] h (qI (zz ζ) Q))))))) : G l (D + 1) 0 0 mX12_most (zz ζ) 165 [aP 97, aI x1, aI x2, aI x3, aU, aI x5, aI x6, aU, aI x8] [aI s0, aI s1] h (qI (zz ζ) Q) := by
  refine g_iadd dX12_most_165 ?_
  refine g_istore (ls' := [aP 97, aI x1, aI x2, aI x3, aI (s1 + s0), aI x5, aI x6, aU, aI x8]) dX12_most_166 (Nat.le_of_ble_eq_true rfl) rfl rfl ?_
  refine g_iload dX12_most_168 rfl ?_
  refine g_iload dX12_most_170 rfl ?_
  obtain ⟨o1, w⟩ := w
  refine g_if_eq (tgt := 179) dX12_most_172 rfl o1 ?_
  refine ite_imp (fun w => ?_) (fun w => ?_) w
  · refine g_iconst dX12_most_179 ?_
    refine g_iadd dX12_most_180 ?_
    refine g_istore (ls' := [aP 97, aI x1, aI x2, aI x3, aI (s1 + s0), aI (x5 + 0), aI x6, aU, aI x8]) dX12_most_181 (Nat.le_of_ble_eq_true rfl) rfl rfl ?_
    refine g_iload dX12_most_183 rfl ?_
    refine g_iload_n dX12_most_185 rfl ?_
    refine g_iconst dX12_most_186 ?_
    obtain ⟨o2, w⟩ := w
    refine g_cmp_eq (tgt := 195) dX12_most_187 rfl o2 (by decide) ?_
    refine ite_imp (fun w => ?_) (fun w => ?_) w
    · refine g_iconst dX12_most_195 ?_
      refine g_goto (tgt := 200) dX12_most_196 rfl ?_
      refine g_isub dX12_most_200 ?_
      refine g_istore (ls' := [aP 97, aI x1, aI x2, aI x3, aI (s1 + s0), aI (x5 + 0), aI (x6 - 1), aU, aI x8]) dX12_most_201 (Nat.le_of_ble_eq_true rfl) rfl rfl ?_
      refine g_goto (tgt := 72) dX12_most_203 rfl ?_
      exact g_sub (ls' := [aP 97, aI x1, aI x2, aI x3, aI (s1 + s0), aI (x5 + 0), aI (x6 - 1), aU, aU]) ⟨Or.inr rfl, Or.inr rfl, Or.inr rfl, Or.inr rfl, Or.inr rfl, Or.inr rfl, Or.inr rfl, Or.inl rfl, Or.inl rfl, trivial⟩ w
    · refine g_iload dX12_most_190 rfl ?_
      refine g_if_ne (tgt := 199) dX12_most_192 rfl o1 ?_
      refine ite_imp (fun w => ?_) (fun w => ?_) w
      · refine g_iconst dX12_most_199 ?_
        refine g_isub dX12_most_200 ?_
        refine g_istore (ls' := [aP 97, aI x1, aI x2, aI x3, aI (s1 + s0), aI (x5 + 0), aI (x6 - 0), aU, aI x8]) dX12_most_201 (Nat.le_of_ble_eq_true rfl) rfl rfl ?_
        refine g_goto (tgt := 72) dX12_most_203 rfl ?_
        exact g_sub (ls' := [aP 97, aI x1, aI x2, aI x3, aI (s1 + s0), aI (x5 + 0), aI (x6 - 0), aU, aU]) ⟨Or.inr rfl, Or.inr rfl, Or.inr rfl, Or.inr rfl, Or.inr rfl, Or.inr rfl, Or.inr rfl, Or.inl rfl, Or.inl rfl, trivial⟩ w
      · refine g_iconst dX12_most_195 ?_
        refine g_goto (tgt := 200) dX12_most_196 rfl ?_
        refine g_isub dX12_most_200 ?_
        refine g_istore (ls' := [aP 97, aI x1, aI x2, aI x3, aI (s1 + s0), aI (x5 + 0), aI (x6 - 1), aU, aI x8]) dX12_most_201 (Nat.le_of_ble_eq_true rfl) rfl rfl ?_
        refine g_goto (tgt := 72) dX12_most_203 rfl ?_
        exact g_sub (ls' := [aP 97, aI x1, aI x2, aI x3, aI (s1 + s0), aI (x5 + 0), aI (x6 - 1), aU, aU]) ⟨Or.inr rfl, Or.inr rfl, Or.inr rfl, Or.inr rfl, Or.inr rfl, Or.inr rfl, Or.inr rfl, Or.inl rfl, Or.inl rfl, trivial⟩ w
  · refine g_iconst dX12_most_175 ?_
    refine g_goto (tgt := 180) dX12_most_176 rfl ?_
    refine g_iadd dX12_most_180 ?_
    refine g_istore (ls' := [aP 97, aI x1, aI x2, aI x3, aI (s1 + s0), aI (x5 + 1), aI x6, aU, aI x8]) dX12_most_181 (Nat.le_of_ble_eq_true rfl) rfl rfl ?_
    refine g_iload dX12_most_183 rfl ?_
    refine g_iload_n dX12_most_185 rfl ?_
    refine g_iconst dX12_most_186 ?_
    obtain ⟨o3, w⟩ := w
    refine g_cmp_eq (tgt := 195) dX12_most_187 rfl o3 (by decide) ?_
    refine ite_imp (fun w => ?_) (fun w => ?_) w
    · refine g_iconst dX12_most_195 ?_
      refine g_goto (tgt := 200) dX12_most_196 rfl ?_
      refine g_isub dX12_most_200 ?_
      refine g_istore (ls' := [aP 97, aI x1, aI x2, aI x3, aI (s1 + s0), aI (x5 + 1), aI (x6 - 1), aU, aI x8]) dX12_most_201 (Nat.le_of_ble_eq_true rfl) rfl rfl ?_
      refine g_goto (tgt := 72) dX12_most_203 rfl ?_
      exact g_sub (ls' := [aP 97, aI x1, aI x2, aI x3, aI (s1 + s0), aI (x5 + 1), aI (x6 - 1), aU, aU]) ⟨Or.inr rfl, Or.inr rfl, Or.inr rfl, Or.inr rfl, Or.inr rfl, Or.inr rfl, Or.inr rfl, Or.inl rfl, Or.inl rfl, trivial⟩ w
    · refine g_iload dX12_most_190 rfl ?_
      refine g_if_ne (tgt := 199) dX12_most_192 rfl o1 ?_
      refine ite_imp (fun w => ?_) (fun w => ?_) w
      · refine g_iconst dX12_most_199 ?_
        refine g_isub dX12_most_200 ?_
        refine g_istore (ls' := [aP 97, aI x1, aI x2, aI x3, aI (s1 + s0), aI (x5 + 1), aI (x6 - 0), aU, aI x8]) dX12_most_201 (Nat.le_of_ble_eq_true rfl) rfl rfl ?_
        refine g_goto (tgt := 72) dX12_most_203 rfl ?_
        exact g_sub (ls' := [aP 97, aI x1, aI x2, aI x3, aI (s1 + s0), aI (x5 + 1), aI (x6 - 0), aU, aU]) ⟨Or.inr rfl, Or.inr rfl, Or.inr rfl, Or.inr rfl, Or.inr rfl, Or.inr rfl, Or.inr rfl, Or.inl rfl, Or.inl rfl, trivial⟩ w
      · refine g_iconst dX12_most_195 ?_
        refine g_goto (tgt := 200) dX12_most_196 rfl ?_
        refine g_isub dX12_most_200 ?_
        refine g_istore (ls' := [aP 97, aI x1, aI x2, aI x3, aI (s1 + s0), aI (x5 + 1), aI (x6 - 1), aU, aI x8]) dX12_most_201 (Nat.le_of_ble_eq_true rfl) rfl rfl ?_
        refine g_goto (tgt := 72) dX12_most_203 rfl ?_
        exact g_sub (ls' := [aP 97, aI x1, aI x2, aI x3, aI (s1 + s0), aI (x5 + 1), aI (x6 - 1), aU, aU]) ⟨Or.inr rfl, Or.inr rfl, Or.inr rfl, Or.inr rfl, Or.inr rfl, Or.inr rfl, Or.inr rfl, Or.inl rfl, Or.inl rfl, trivial⟩ w
theorem e_X12_most {l : Launch} {D : Nat} {ζ : ZP} {h : HI} {Q : Int → HI → Prop} {x1 x2 x3 : Int} (hn : 144 ≤ ζ.2.2.2.2) (w : RtV l D mX12_taken (zz ζ) [aP 97, aI 540] (hu h 97 0 0) (fun h1 => RtI l D mX12_tells (zz ζ) [aP 97, aI 1, aI 60] h1 (fun r2 h2 => (rg r2) ∧ (if r2 = 0 then (Q (-1) h2) else (RtI l D mX12_isIn (zz ζ) [aI x1, aI 1, aI 20] h2 (fun r3 h3 => (rg r3) ∧ (if r3 = 0 then (Q (-1) h3) else (RtI l D mX12_isIn (zz ζ) [aI x2, aI 1, aI 2] h3 (fun r4 h4 => (rg r4) ∧ (if r4 = 0 then (Q (-1) h4) else (RtI l D mX12_isIn (zz ζ) [aI x3, aI 1, aI 800] h4 (fun r5 h5 => (rg r5) ∧ (if ¬ r5 = 0 then (RtV l D mX12_sort (zz ζ) [aP 97] h5 (fun h6 => G l (D + 1) 0 0 mX12_most (zz ζ) 72 [aP 97, aI x1, aI x2, aI x3, aI 0, aI 0, aI ((h6 97 43) - 1), aU, aU] [] h6 (qI (zz ζ) Q))) else (Q (-1) h5)))))))))))))) : RtI l (D + 1) mX12_most (zz ζ) [aP 97, aI x1, aI x2, aI x3] h Q := by
  refine RtI.of 5 pn_X12 [aP 97, aI x1, aI x2, aI x3, aU, aU, aU, aU, aU] rfl rfl ?_
  refine g_aload_n dX12_most_0 rfl ?_
  refine g_iconst dX12_most_1 ?_
  refine g_putI (J := 0) dX12_most_2 fl_X12_1 sh_97 (al_97 hn) rfl rfl ?_
  refine g_aload_n dX12_most_5 rfl ?_
  refine g_sipush dX12_most_6 rfl ?_
  refine g_callVV (n := 1) (As := [aI 540]) (st := []) dX12_most_9 ml_X12_292 sh_97 rfl (al_97 hn) rfl rfl (Nat.le_of_ble_eq_true rfl) (RtV.mono w (fun h1 w => ?_))
  refine g_aload_n dX12_most_12 rfl ?_
  refine g_iconst dX12_most_13 ?_
  refine g_bipush dX12_most_14 rfl ?_
  refine g_callVI (n := 2) (As := [aI 1, aI 60]) (st := []) dX12_most_16 ml_X12_412 sh_97 rfl (al_97 hn) rfl rfl (Nat.le_of_ble_eq_true rfl) (RtI.mono w (fun r2 h2 w => ?_))
  obtain ⟨o1, w⟩ := w
  refine g_if_eq (tgt := 52) dX12_most_19 rfl o1 ?_
  refine ite_imp (fun w => ?_) (fun w => ?_) w
  · refine g_iconst dX12_most_52 ?_
    exact g_retI dX12_most_53 rfl w
  · refine g_iload_n dX12_most_22 rfl ?_
    refine g_iconst dX12_most_23 ?_
    refine g_bipush dX12_most_24 rfl ?_
    refine g_callSI (n := 3) (As := [aI x1, aI 1, aI 20]) (st := []) dX12_most_26 ml_X12_262 rfl rfl (Nat.le_of_ble_eq_true rfl) rfl (RtI.mono w (fun r3 h3 w => ?_))
    obtain ⟨o2, w⟩ := w
    refine g_if_eq (tgt := 52) dX12_most_29 rfl o2 ?_
    refine ite_imp (fun w => ?_) (fun w => ?_) w
    · refine g_iconst dX12_most_52 ?_
      exact g_retI dX12_most_53 rfl w
    · refine g_iload_n dX12_most_32 rfl ?_
      refine g_iconst dX12_most_33 ?_
      refine g_iconst dX12_most_34 ?_
      refine g_callSI (n := 3) (As := [aI x2, aI 1, aI 2]) (st := []) dX12_most_35 ml_X12_262 rfl rfl (Nat.le_of_ble_eq_true rfl) rfl (RtI.mono w (fun r4 h4 w => ?_))
      obtain ⟨o3, w⟩ := w
      refine g_if_eq (tgt := 52) dX12_most_38 rfl o3 ?_
      refine ite_imp (fun w => ?_) (fun w => ?_) w
      · refine g_iconst dX12_most_52 ?_
        exact g_retI dX12_most_53 rfl w
      · refine g_iload_n dX12_most_41 rfl ?_
        refine g_iconst dX12_most_42 ?_
        refine g_sipush dX12_most_43 rfl ?_
        refine g_callSI (n := 3) (As := [aI x3, aI 1, aI 800]) (st := []) dX12_most_46 ml_X12_262 rfl rfl (Nat.le_of_ble_eq_true rfl) rfl (RtI.mono w (fun r5 h5 w => ?_))
        obtain ⟨o4, w⟩ := w
        refine g_if_ne (tgt := 54) dX12_most_49 rfl o4 ?_
        refine ite_imp (fun w => ?_) (fun w => ?_) w
        · refine g_aload_n dX12_most_54 rfl ?_
          refine g_callVV (n := 0) (As := []) (st := []) dX12_most_55 ml_X12_443 sh_97 rfl (al_97 hn) rfl rfl (Nat.le_of_ble_eq_true rfl) (RtV.mono w (fun h6 w => ?_))
          refine g_iconst dX12_most_58 ?_
          refine g_istore (ls' := [aP 97, aI x1, aI x2, aI x3, aI 0, aU, aU, aU, aU]) dX12_most_59 (Nat.le_of_ble_eq_true rfl) rfl rfl ?_
          refine g_iconst dX12_most_61 ?_
          refine g_istore (ls' := [aP 97, aI x1, aI x2, aI x3, aI 0, aI 0, aU, aU, aU]) dX12_most_62 (Nat.le_of_ble_eq_true rfl) rfl rfl ?_
          refine g_aload_n dX12_most_64 rfl ?_
          refine g_getI (J := 43) dX12_most_65 fl_X12_397 sh_97 (al_97 hn) (fun _ _ _ => rfl) rfl ?_
          refine g_iconst dX12_most_68 ?_
          refine g_isub dX12_most_69 ?_
          refine g_istore (ls' := [aP 97, aI x1, aI x2, aI x3, aI 0, aI 0, aI ((h6 97 43) - 1), aU, aU]) dX12_most_70 (Nat.le_of_ble_eq_true rfl) rfl rfl ?_
          exact g_sub (ls' := [aP 97, aI x1, aI x2, aI x3, aI 0, aI 0, aI ((h6 97 43) - 1), aU, aU]) ⟨Or.inr rfl, Or.inr rfl, Or.inr rfl, Or.inr rfl, Or.inr rfl, Or.inr rfl, Or.inr rfl, Or.inl rfl, Or.inl rfl, trivial⟩ w
        · refine g_iconst dX12_most_52 ?_
          exact g_retI dX12_most_53 rfl w
theorem b_X12_share_38 {l : Launch} {D : Nat} {ζ : ZP} {h : HI} {Q : Int → HI → Prop} {x1 x2 : Int} (hn : 144 ≤ ζ.2.2.2.2) (w : (rg x2) ∧ (rg (h 97 3)) ∧ (if (h 97 3) ≤ x2 then (G l (D + 1) 0 0 mX12_share (zz ζ) 77 [aP 97, aI x1, aI 1000000, aI 1, aI 0, aU, aU, aU, aU] [] h (qI (zz ζ) Q)) else (RtI l D mX12_octet (zz ζ) [aP 97, aI x2] h (fun r1 h1 => RtI l D mX12_isIn (zz ζ) [aI r1, aI 1, aI 99] h1 (fun r2 h2 => (rg r2) ∧ (if ¬ r2 = 0 then (G l (D + 1) 0 0 mX12_share (zz ζ) 38 [aP 97, aI x1, aI (x2 + 1), aU, aU, aU, aU, aU, aU] [] h2 (qI (zz ζ) Q)) else (Q (-1) h2))))))) : G l (D + 1) 0 0 mX12_share (zz ζ) 38 [aP 97, aI x1, aI x2, aU, aU, aU, aU, aU, aU] [] h (qI (zz ζ) Q) := by
  refine g_iload_n dX12_share_38 rfl ?_
  refine g_aload_n dX12_share_39 rfl ?_
  refine g_getI (J := 3) dX12_share_40 fl_X12_18 sh_97 (al_97 hn) (fun _ _ _ => rfl) rfl ?_
  obtain ⟨o1, w⟩ := w
  obtain ⟨o2, w⟩ := w
  refine g_cmp_ge (tgt := 68) dX12_share_43 rfl o1 o2 ?_
  refine ite_imp (fun w => ?_) (fun w => ?_) w
  · refine g_ldcw (n := 1000000) dX12_share_68 ko_X12_327 rfl ?_
    refine g_istore_n (ls' := [aP 97, aI x1, aI 1000000, aU, aU, aU, aU, aU, aU]) dX12_share_71 (Nat.le_of_ble_eq_true rfl) rfl rfl ?_
    refine g_iconst dX12_share_72 ?_
    refine g_istore_n (ls' := [aP 97, aI x1, aI 1000000, aI 1, aU, aU, aU, aU, aU]) dX12_share_73 (Nat.le_of_ble_eq_true rfl) rfl rfl ?_
    refine g_iconst dX12_share_74 ?_
    refine g_istore (ls' := [aP 97, aI x1, aI 1000000, aI 1, aI 0, aU, aU, aU, aU]) dX12_share_75 (Nat.le_of_ble_eq_true rfl) rfl rfl ?_
    exact g_sub (ls' := [aP 97, aI x1, aI 1000000, aI 1, aI 0, aU, aU, aU, aU]) ⟨Or.inr rfl, Or.inr rfl, Or.inr rfl, Or.inr rfl, Or.inr rfl, Or.inl rfl, Or.inl rfl, Or.inl rfl, Or.inl rfl, trivial⟩ w
  · refine g_aload_n dX12_share_46 rfl ?_
    refine g_iload_n dX12_share_47 rfl ?_
    refine g_callVI (n := 1) (As := [aI x2]) (st := []) dX12_share_48 ml_X12_400 sh_97 rfl (al_97 hn) rfl rfl (Nat.le_of_ble_eq_true rfl) (RtI.mono w (fun r1 h1 w => ?_))
    refine g_iconst dX12_share_51 ?_
    refine g_bipush dX12_share_52 rfl ?_
    refine g_callSI (n := 3) (As := [aI r1, aI 1, aI 99]) (st := []) dX12_share_54 ml_X12_262 rfl rfl (Nat.le_of_ble_eq_true rfl) rfl (RtI.mono w (fun r2 h2 w => ?_))
    obtain ⟨o3, w⟩ := w
    refine g_if_ne (tgt := 62) dX12_share_57 rfl o3 ?_
    refine ite_imp (fun w => ?_) (fun w => ?_) w
    · refine g_iinc (ls' := [aP 97, aI x1, aI (x2 + 1), aU, aU, aU, aU, aU, aU]) dX12_share_62 rfl (Nat.le_of_ble_eq_true rfl) rfl rfl ?_
      refine g_goto (tgt := 38) dX12_share_65 rfl ?_
      exact g_sub (ls' := [aP 97, aI x1, aI (x2 + 1), aU, aU, aU, aU, aU, aU]) ⟨Or.inr rfl, Or.inr rfl, Or.inr rfl, Or.inl rfl, Or.inl rfl, Or.inl rfl, Or.inl rfl, Or.inl rfl, Or.inl rfl, trivial⟩ w
    · refine g_iconst dX12_share_60 ?_
      exact g_retI dX12_share_61 rfl w
theorem b_X12_share_77 {l : Launch} {D : Nat} {ζ : ZP} {h : HI} {Q : Int → HI → Prop} {x1 x2 x3 x4 : Int} (hn : 144 ≤ ζ.2.2.2.2) (w : (rg x4) ∧ (rg (h 97 3)) ∧ (if (h 97 3) ≤ x4 then (G l (D + 1) 0 0 mX12_share (zz ζ) 99 [aP 97, aI x1, aI x2, aI x3, aI 0, aU, aU, aU, aU] [] h (qI (zz ζ) Q)) else (G l (D + 1) 0 0 mX12_share (zz ζ) 77 [aP 97, aI x1, aI x2, aI (x3 * x1), aI (x4 + 1), aU, aU, aU, aU] [] h (qI (zz ζ) Q)))) : G l (D + 1) 0 0 mX12_share (zz ζ) 77 [aP 97, aI x1, aI x2, aI x3, aI x4, aU, aU, aU, aU] [] h (qI (zz ζ) Q) := by
  refine g_iload dX12_share_77 rfl ?_
  refine g_aload_n dX12_share_79 rfl ?_
  refine g_getI (J := 3) dX12_share_80 fl_X12_18 sh_97 (al_97 hn) (fun _ _ _ => rfl) rfl ?_
  obtain ⟨o1, w⟩ := w
  obtain ⟨o2, w⟩ := w
  refine g_cmp_ge (tgt := 96) dX12_share_83 rfl o1 o2 ?_
  refine ite_imp (fun w => ?_) (fun w => ?_) w
  · refine g_iconst dX12_share_96 ?_
    refine g_istore (ls' := [aP 97, aI x1, aI x2, aI x3, aI 0, aU, aU, aU, aU]) dX12_share_97 (Nat.le_of_ble_eq_true rfl) rfl rfl ?_
    exact g_sub (ls' := [aP 97, aI x1, aI x2, aI x3, aI 0, aU, aU, aU, aU]) ⟨Or.inr rfl, Or.inr rfl, Or.inr rfl, Or.inr rfl, Or.inr rfl, Or.inl rfl, Or.inl rfl, Or.inl rfl, Or.inl rfl, trivial⟩ w
  · refine g_iload_n dX12_share_86 rfl ?_
    refine g_iload_n dX12_share_87 rfl ?_
    refine g_imul dX12_share_88 ?_
    refine g_istore_n (ls' := [aP 97, aI x1, aI x2, aI (x3 * x1), aI x4, aU, aU, aU, aU]) dX12_share_89 (Nat.le_of_ble_eq_true rfl) rfl rfl ?_
    refine g_iinc (ls' := [aP 97, aI x1, aI x2, aI (x3 * x1), aI (x4 + 1), aU, aU, aU, aU]) dX12_share_90 rfl (Nat.le_of_ble_eq_true rfl) rfl rfl ?_
    refine g_goto (tgt := 77) dX12_share_93 rfl ?_
    exact g_sub (ls' := [aP 97, aI x1, aI x2, aI (x3 * x1), aI (x4 + 1), aU, aU, aU, aU]) ⟨Or.inr rfl, Or.inr rfl, Or.inr rfl, Or.inr rfl, Or.inr rfl, Or.inl rfl, Or.inl rfl, Or.inl rfl, Or.inl rfl, trivial⟩ w
theorem b_X12_share_99 {l : Launch} {D : Nat} {ζ : ZP} {h : HI} {Q : Int → HI → Prop} {x1 x2 x3 x4 : Int} (hn : 144 ≤ ζ.2.2.2.2) (w : (rg x4) ∧ (rg x3) ∧ (if x3 ≤ x4 then (Q x2 (hu h 97 58 (h 97 3))) else (G l (D + 1) 0 0 mX12_share (zz ζ) 117 [aP 97, aI x1, aI x2, aI x3, aI x4, aI x4, aI ((h 97 3) - 1), aU, aU] [] h (qI (zz ζ) Q)))) : G l (D + 1) 0 0 mX12_share (zz ζ) 99 [aP 97, aI x1, aI x2, aI x3, aI x4, aU, aU, aU, aU] [] h (qI (zz ζ) Q) := by
  refine g_iload dX12_share_99 rfl ?_
  refine g_iload_n dX12_share_101 rfl ?_
  obtain ⟨o1, w⟩ := w
  obtain ⟨o2, w⟩ := w
  refine g_cmp_ge (tgt := 321) dX12_share_102 rfl o1 o2 ?_
  refine ite_imp (fun w => ?_) (fun w => ?_) w
  · refine g_aload_n dX12_share_321 rfl ?_
    refine g_aload_n dX12_share_322 rfl ?_
    refine g_getI (J := 3) dX12_share_323 fl_X12_18 sh_97 (al_97 hn) (fun _ _ _ => rfl) rfl ?_
    refine g_putI (J := 58) dX12_share_326 fl_X12_461 sh_97 (al_97 hn) rfl rfl ?_
    refine g_iload_n dX12_share_329 rfl ?_
    exact g_retI dX12_share_330 rfl w
  · refine g_iload dX12_share_105 rfl ?_
    refine g_istore (ls' := [aP 97, aI x1, aI x2, aI x3, aI x4, aI x4, aU, aU, aU]) dX12_share_107 (Nat.le_of_ble_eq_true rfl) rfl rfl ?_
    refine g_aload_n dX12_share_109 rfl ?_
    refine g_getI (J := 3) dX12_share_110 fl_X12_18 sh_97 (al_97 hn) (fun _ _ _ => rfl) rfl ?_
    refine g_iconst dX12_share_113 ?_
    refine g_isub dX12_share_114 ?_
    refine g_istore (ls' := [aP 97, aI x1, aI x2, aI x3, aI x4, aI x4, aI ((h 97 3) - 1), aU, aU]) dX12_share_115 (Nat.le_of_ble_eq_true rfl) rfl rfl ?_
    exact g_sub (ls' := [aP 97, aI x1, aI x2, aI x3, aI x4, aI x4, aI ((h 97 3) - 1), aU, aU]) ⟨Or.inr rfl, Or.inr rfl, Or.inr rfl, Or.inr rfl, Or.inr rfl, Or.inr rfl, Or.inr rfl, Or.inl rfl, Or.inl rfl, trivial⟩ w
theorem b_X12_share_117 {l : Launch} {D : Nat} {ζ : ZP} {h : HI} {Q : Int → HI → Prop} {x1 x2 x3 x4 x5 x6 : Int} (hn : 144 ≤ ζ.2.2.2.2) (w : (rg x6) ∧ (if x6 < 0 then (G l (D + 1) 0 0 mX12_share (zz ζ) 154 [aP 97, aI x1, aI x2, aI x3, aI x4, aU, aI 0, aI 1, aI 0] [] h (qI (zz ζ) Q)) else ((rg x5) ∧ (rg x1) ∧ (x1 ≠ 0) ∧ (0 ≤ x6 ∧ x6 < 60) ∧ G l (D + 1) 0 0 mX12_share (zz ζ) 117 [aP 97, aI x1, aI x2, aI x3, aI x4, aI (x5.tdiv x1), aI (x6 + (-1)), aU, aU] [] (hu h 115 x6 (x5.tmod x1)) (qI (zz ζ) Q)))) : G l (D + 1) 0 0 mX12_share (zz ζ) 117 [aP 97, aI x1, aI x2, aI x3, aI x4, aI x5, aI x6, aU, aU] [] h (qI (zz ζ) Q) := by
  refine g_iload dX12_share_117 rfl ?_
  obtain ⟨o1, w⟩ := w
  refine g_if_lt (tgt := 145) dX12_share_119 rfl o1 ?_
  refine ite_imp (fun w => ?_) (fun w => ?_) w
  · refine g_iconst dX12_share_145 ?_
    refine g_istore (ls' := [aP 97, aI x1, aI x2, aI x3, aI x4, aI x5, aI 0, aU, aU]) dX12_share_146 (Nat.le_of_ble_eq_true rfl) rfl rfl ?_
    refine g_iconst dX12_share_148 ?_
    refine g_istore (ls' := [aP 97, aI x1, aI x2, aI x3, aI x4, aI x5, aI 0, aI 1, aU]) dX12_share_149 (Nat.le_of_ble_eq_true rfl) rfl rfl ?_
    refine g_iconst dX12_share_151 ?_
    refine g_istore (ls' := [aP 97, aI x1, aI x2, aI x3, aI x4, aI x5, aI 0, aI 1, aI 0]) dX12_share_152 (Nat.le_of_ble_eq_true rfl) rfl rfl ?_
    exact g_sub (ls' := [aP 97, aI x1, aI x2, aI x3, aI x4, aU, aI 0, aI 1, aI 0]) ⟨Or.inr rfl, Or.inr rfl, Or.inr rfl, Or.inr rfl, Or.inr rfl, Or.inl rfl, Or.inr rfl, Or.inr rfl, Or.inr rfl, trivial⟩ w
  · refine g_aload_n dX12_share_122 rfl ?_
    refine g_getR dX12_share_123 fl_X12_84 sh_97 (al_97 hn) (fun _ _ _ => rfl) rf_97_37 ?_
    refine g_iload dX12_share_126 rfl ?_
    refine g_iload dX12_share_128 rfl ?_
    refine g_iload_n dX12_share_130 rfl ?_
    obtain ⟨o2, w⟩ := w
    obtain ⟨o3, w⟩ := w
    obtain ⟨o4, w⟩ := w
    refine g_irem dX12_share_131 o2 o3 o4 ?_
    obtain ⟨o5, w⟩ := w
    refine g_iast dX12_share_132 sh_115 (al_115 hn) (Nat.le_of_ble_eq_true rfl) o5 ?_
    refine g_iload dX12_share_133 rfl ?_
    refine g_iload_n dX12_share_135 rfl ?_
    refine g_idiv dX12_share_136 o2 o3 o4 ?_
    refine g_istore (ls' := [aP 97, aI x1, aI x2, aI x3, aI x4, aI (x5.tdiv x1), aI x6, aU, aU]) dX12_share_137 (Nat.le_of_ble_eq_true rfl) rfl rfl ?_
    refine g_iinc (ls' := [aP 97, aI x1, aI x2, aI x3, aI x4, aI (x5.tdiv x1), aI (x6 + (-1)), aU, aU]) dX12_share_139 rfl (Nat.le_of_ble_eq_true rfl) rfl rfl ?_
    refine g_goto (tgt := 117) dX12_share_142 rfl ?_
    exact g_sub (ls' := [aP 97, aI x1, aI x2, aI x3, aI x4, aI (x5.tdiv x1), aI (x6 + (-1)), aU, aU]) ⟨Or.inr rfl, Or.inr rfl, Or.inr rfl, Or.inr rfl, Or.inr rfl, Or.inr rfl, Or.inr rfl, Or.inl rfl, Or.inl rfl, trivial⟩ w
theorem b_X12_share_154 {l : Launch} {D : Nat} {ζ : ZP} {h : HI} {Q : Int → HI → Prop} {x1 x2 x3 x4 x6 x7 x8 : Int} (hn : 144 ≤ ζ.2.2.2.2) (w : (rg x8) ∧ (rg x1) ∧ (if x1 ≤ x8 then (G l (D + 1) 0 0 mX12_share (zz ζ) 177 [aP 97, aI x1, aI x2, aI x3, aI x4, aU, aI x6, aI x7, aI 0] [] h (qI (zz ζ) Q)) else ((0 ≤ x8 ∧ x8 < 60) ∧ G l (D + 1) 0 0 mX12_share (zz ζ) 154 [aP 97, aI x1, aI x2, aI x3, aI x4, aU, aI x6, aI x7, aI (x8 + 1)] [] (hu h 118 x8 0) (qI (zz ζ) Q)))) : G l (D + 1) 0 0 mX12_share (zz ζ) 154 [aP 97, aI x1, aI x2, aI x3, aI x4, aU, aI x6, aI x7, aI x8] [] h (qI (zz ζ) Q) := by
  refine g_iload dX12_share_154 rfl ?_
  refine g_iload_n dX12_share_156 rfl ?_
  obtain ⟨o1, w⟩ := w
  obtain ⟨o2, w⟩ := w
  refine g_cmp_ge (tgt := 174) dX12_share_157 rfl o1 o2 ?_
  refine ite_imp (fun w => ?_) (fun w => ?_) w
  · refine g_iconst dX12_share_174 ?_
    refine g_istore (ls' := [aP 97, aI x1, aI x2, aI x3, aI x4, aU, aI x6, aI x7, aI 0]) dX12_share_175 (Nat.le_of_ble_eq_true rfl) rfl rfl ?_
    exact g_sub (ls' := [aP 97, aI x1, aI x2, aI x3, aI x4, aU, aI x6, aI x7, aI 0]) ⟨Or.inr rfl, Or.inr rfl, Or.inr rfl, Or.inr rfl, Or.inr rfl, Or.inl rfl, Or.inr rfl, Or.inr rfl, Or.inr rfl, trivial⟩ w
  · refine g_aload_n dX12_share_160 rfl ?_
    refine g_getR dX12_share_161 fl_X12_93 sh_97 (al_97 hn) (fun _ _ _ => rfl) rf_97_40 ?_
    refine g_iload dX12_share_164 rfl ?_
    refine g_iconst dX12_share_166 ?_
    obtain ⟨o3, w⟩ := w
    refine g_iast dX12_share_167 sh_118 (al_118 hn) (Nat.le_of_ble_eq_true rfl) o3 ?_
    refine g_iinc (ls' := [aP 97, aI x1, aI x2, aI x3, aI x4, aU, aI x6, aI x7, aI (x8 + 1)]) dX12_share_168 rfl (Nat.le_of_ble_eq_true rfl) rfl rfl ?_
    refine g_goto (tgt := 154) dX12_share_171 rfl ?_
    exact g_sub (ls' := [aP 97, aI x1, aI x2, aI x3, aI x4, aU, aI x6, aI x7, aI (x8 + 1)]) ⟨Or.inr rfl, Or.inr rfl, Or.inr rfl, Or.inr rfl, Or.inr rfl, Or.inl rfl, Or.inr rfl, Or.inr rfl, Or.inr rfl, trivial⟩ w
theorem b_X12_share_177 {l : Launch} {D : Nat} {ζ : ZP} {h : HI} {Q : Int → HI → Prop} {x1 x2 x3 x4 x6 x7 x8 : Int} (hn : 144 ≤ ζ.2.2.2.2) (w : (rg x8) ∧ (rg (h 97 3)) ∧ (if (h 97 3) ≤ x8 then ((rg x7) ∧ (if x7 = 0 then (G l (D + 1) 0 0 mX12_share (zz ζ) 99 [aP 97, aI x1, aI x2, aI x3, aI (x4 + 1), aU, aU, aU, aU] [] h (qI (zz ζ) Q)) else (RtI l D mX12_strongOf (zz ζ) [aP 97, aI x1] h (fun r1 h1 => (rg r1) ∧ (rg x2) ∧ (if r1 < x2 then (RtI l D mX12_strongOf (zz ζ) [aP 97, aI x1] h1 (fun r2 h2 => G l (D + 1) 0 0 mX12_share (zz ζ) 286 [aP 97, aI x1, aI r2, aI x3, aI x4, aU, aU, aU, aI 0] [] h2 (qI (zz ζ) Q))) else (G l (D + 1) 0 0 mX12_share (zz ζ) 99 [aP 97, aI x1, aI x2, aI x3, aI (x4 + 1), aU, aU, aU, aU] [] h1 (qI (zz ζ) Q))))))) else ((rg x7) ∧ (if x7 = 0 then (G l (D + 1) 0 0 mX12_share (zz ζ) 208 [aP 97, aI x1, aI x2, aI x3, aI x4, aU, aI x6, aU, aI x8] [aI 0] h (qI (zz ζ) Q)) else ((0 ≤ x8 ∧ x8 < 60) ∧ (rg (h 115 x8)) ∧ (rg x6) ∧ (if x6 < (h 115 x8) then (G l (D + 1) 0 0 mX12_share (zz ζ) 208 [aP 97, aI x1, aI x2, aI x3, aI x4, aU, aI x6, aU, aI x8] [aI 0] h (qI (zz ζ) Q)) else (G l (D + 1) 0 0 mX12_share (zz ζ) 208 [aP 97, aI x1, aI x2, aI x3, aI x4, aU, aI x6, aU, aI x8] [aI 1] h (qI (zz ζ) Q)))))))) : G l (D + 1) 0 0 mX12_share (zz ζ) 177 [aP 97, aI x1, aI x2, aI x3, aI x4, aU, aI x6, aI x7, aI x8] [] h (qI (zz ζ) Q) := by
  refine g_iload dX12_share_177 rfl ?_
  refine g_aload_n dX12_share_179 rfl ?_
  refine g_getI (J := 3) dX12_share_180 fl_X12_18 sh_97 (al_97 hn) (fun _ _ _ => rfl) rfl ?_
  obtain ⟨o1, w⟩ := w
  obtain ⟨o2, w⟩ := w
  refine g_cmp_ge (tgt := 260) dX12_share_183 rfl o1 o2 ?_
  refine ite_imp (fun w => ?_) (fun w => ?_) w
  · refine g_iload dX12_share_260 rfl ?_
    obtain ⟨o3, w⟩ := w
    refine g_if_eq (tgt := 315) dX12_share_262 rfl o3 ?_
    refine ite_imp (fun w => ?_) (fun w => ?_) w
    · refine g_iinc (ls' := [aP 97, aI x1, aI x2, aI x3, aI (x4 + 1), aU, aI x6, aI x7, aI x8]) dX12_share_315 rfl (Nat.le_of_ble_eq_true rfl) rfl rfl ?_
      refine g_goto (tgt := 99) dX12_share_318 rfl ?_
      exact g_sub (ls' := [aP 97, aI x1, aI x2, aI x3, aI (x4 + 1), aU, aU, aU, aU]) ⟨Or.inr rfl, Or.inr rfl, Or.inr rfl, Or.inr rfl, Or.inr rfl, Or.inl rfl, Or.inl rfl, Or.inl rfl, Or.inl rfl, trivial⟩ w
    · refine g_aload_n dX12_share_265 rfl ?_
      refine g_iload_n dX12_share_266 rfl ?_
      refine g_callVI (n := 1) (As := [aI x1]) (st := []) dX12_share_267 ml_X12_433 sh_97 rfl (al_97 hn) rfl rfl (Nat.le_of_ble_eq_true rfl) (RtI.mono w (fun r1 h1 w => ?_))
      refine g_iload_n dX12_share_270 rfl ?_
      obtain ⟨o4, w⟩ := w
      obtain ⟨o5, w⟩ := w
      refine g_cmp_lt (tgt := 277) dX12_share_271 rfl o4 o5 ?_
      refine ite_imp (fun w => ?_) (fun w => ?_) w
      · refine g_aload_n dX12_share_277 rfl ?_
        refine g_iload_n dX12_share_278 rfl ?_
        refine g_callVI (n := 1) (As := [aI x1]) (st := []) dX12_share_279 ml_X12_433 sh_97 rfl (al_97 hn) rfl rfl (Nat.le_of_ble_eq_true rfl) (RtI.mono w (fun r2 h2 w => ?_))
        refine g_istore_n (ls' := [aP 97, aI x1, aI r2, aI x3, aI x4, aU, aI x6, aI x7, aI x8]) dX12_share_282 (Nat.le_of_ble_eq_true rfl) rfl rfl ?_
        refine g_iconst dX12_share_283 ?_
        refine g_istore (ls' := [aP 97, aI x1, aI r2, aI x3, aI x4, aU, aI x6, aI x7, aI 0]) dX12_share_284 (Nat.le_of_ble_eq_true rfl) rfl rfl ?_
        exact g_sub (ls' := [aP 97, aI x1, aI r2, aI x3, aI x4, aU, aU, aU, aI 0]) ⟨Or.inr rfl, Or.inr rfl, Or.inr rfl, Or.inr rfl, Or.inr rfl, Or.inl rfl, Or.inl rfl, Or.inl rfl, Or.inr rfl, trivial⟩ w
      · refine g_goto (tgt := 315) dX12_share_274 rfl ?_
        refine g_iinc (ls' := [aP 97, aI x1, aI x2, aI x3, aI (x4 + 1), aU, aI x6, aI x7, aI x8]) dX12_share_315 rfl (Nat.le_of_ble_eq_true rfl) rfl rfl ?_
        refine g_goto (tgt := 99) dX12_share_318 rfl ?_
        exact g_sub (ls' := [aP 97, aI x1, aI x2, aI x3, aI (x4 + 1), aU, aU, aU, aU]) ⟨Or.inr rfl, Or.inr rfl, Or.inr rfl, Or.inr rfl, Or.inr rfl, Or.inl rfl, Or.inl rfl, Or.inl rfl, Or.inl rfl, trivial⟩ w
  · refine g_iload dX12_share_186 rfl ?_
    obtain ⟨o6, w⟩ := w
    refine g_if_eq (tgt := 207) dX12_share_188 rfl o6 ?_
    refine ite_imp (fun w => ?_) (fun w => ?_) w
    · refine g_iconst dX12_share_207 ?_
      exact g_sub (ls' := [aP 97, aI x1, aI x2, aI x3, aI x4, aU, aI x6, aU, aI x8]) ⟨Or.inr rfl, Or.inr rfl, Or.inr rfl, Or.inr rfl, Or.inr rfl, Or.inl rfl, Or.inr rfl, Or.inl rfl, Or.inr rfl, trivial⟩ w
    · refine g_aload_n dX12_share_191 rfl ?_
      refine g_getR dX12_share_192 fl_X12_84 sh_97 (al_97 hn) (fun _ _ _ => rfl) rf_97_37 ?_
      refine g_iload dX12_share_195 rfl ?_
      obtain ⟨o7, w⟩ := w
      refine g_iald dX12_share_197 sh_115 (al_115 hn) (Nat.le_of_ble_eq_true rfl) o7 ?_
      refine g_iload dX12_share_198 rfl ?_
      obtain ⟨o8, w⟩ := w
      obtain ⟨o9, w⟩ := w
      refine g_cmp_gt (tgt := 207) dX12_share_200 rfl o8 o9 ?_
      refine ite_imp (fun w => ?_) (fun w => ?_) w
      · refine g_iconst dX12_share_207 ?_
        exact g_sub (ls' := [aP 97, aI x1, aI x2, aI x3, aI x4, aU, aI x6, aU, aI x8]) ⟨Or.inr rfl, Or.inr rfl, Or.inr rfl, Or.inr rfl, Or.inr rfl, Or.inl rfl, Or.inr rfl, Or.inl rfl, Or.inr rfl, trivial⟩ w
      · refine g_iconst dX12_share_203 ?_
        refine g_goto (tgt := 208) dX12_share_204 rfl ?_
        exact g_sub (ls' := [aP 97, aI x1, aI x2, aI x3, aI x4, aU, aI x6, aU, aI x8]) ⟨Or.inr rfl, Or.inr rfl, Or.inr rfl, Or.inr rfl, Or.inr rfl, Or.inl rfl, Or.inr rfl, Or.inl rfl, Or.inr rfl, trivial⟩ w
theorem b_X12_share_208 {l : Launch} {D : Nat} {ζ : ZP} {h : HI} {Q : Int → HI → Prop} {s0 x1 x2 x3 x4 x6 x8 : Int} (hn : 144 ≤ ζ.2.2.2.2) (w : (0 ≤ x8 ∧ x8 < 60) ∧ (rg (h 115 x8)) ∧ (rg x6) ∧ (if ¬ (h 115 x8) = x6 then ((0 ≤ (h 115 x8) ∧ (h 115 x8) < 60) ∧ RtI l D mX12_octet (zz ζ) [aP 97, aI x8] h (fun r1 h1 => G l (D + 1) 0 0 mX12_share (zz ζ) 177 [aP 97, aI x1, aI x2, aI x3, aI x4, aU, aI x6, aI s0, aI (x8 + 1)] [] (hu h1 118 (h 115 x8) ((h 118 (h 115 x8)) + r1)) (qI (zz ζ) Q))) else ((0 ≤ (h 115 x8) ∧ (h 115 x8) < 60) ∧ RtI l D mX12_octet (zz ζ) [aP 97, aI x8] h (fun r2 h2 => G l (D + 1) 0 0 mX12_share (zz ζ) 177 [aP 97, aI x1, aI x2, aI x3, aI x4, aU, aI (x6 + 1), aI s0, aI (x8 + 1)] [] (hu h2 118 (h 115 x8) ((h 118 (h 115 x8)) + r2)) (qI (zz ζ) Q))))) : G l (D + 1) 0 0 mX12_share (zz ζ) 208 [aP 97, aI x1, aI x2, aI x3, aI x4, aU, aI x6, aU, aI x8] [aI s0] h (qI (zz ζ) Q) := by
  refine g_istore (ls' := [aP 97, aI x1, aI x2, aI x3, aI x4, aU, aI x6, aI s0, aI x8]) dX12_share_208 (Nat.le_of_ble_eq_true rfl) rfl rfl ?_
  refine g_aload_n dX12_share_210 rfl ?_
  refine g_getR dX12_share_211 fl_X12_84 sh_97 (al_97 hn) (fun _ _ _ => rfl) rf_97_37 ?_
  refine g_iload dX12_share_214 rfl ?_
  obtain ⟨o1, w⟩ := w
  refine g_iald dX12_share_216 sh_115 (al_115 hn) (Nat.le_of_ble_eq_true rfl) o1 ?_
  refine g_iload dX12_share_217 rfl ?_
  obtain ⟨o2, w⟩ := w
  obtain ⟨o3, w⟩ := w
  refine g_cmp_ne (tgt := 229) dX12_share_219 rfl o2 o3 ?_
  refine ite_imp (fun w => ?_) (fun w => ?_) w
  · refine g_iload dX12_share_229 rfl ?_
    refine g_istore (ls' := [aP 97, aI x1, aI x2, aI x3, aI x4, aU, aI x6, aI s0, aI x8]) dX12_share_231 (Nat.le_of_ble_eq_true rfl) rfl rfl ?_
    refine g_aload_n dX12_share_233 rfl ?_
    refine g_getR dX12_share_234 fl_X12_93 sh_97 (al_97 hn) (fun _ _ _ => rfl) rf_97_40 ?_
    refine g_aload_n dX12_share_237 rfl ?_
    refine g_getR dX12_share_238 fl_X12_84 sh_97 (al_97 hn) (fun _ _ _ => rfl) rf_97_37 ?_
    refine g_iload dX12_share_241 rfl ?_
    refine g_iald dX12_share_243 sh_115 (al_115 hn) (Nat.le_of_ble_eq_true rfl) o1 ?_
    refine g_dup2 dX12_share_244 rfl rfl ?_
    obtain ⟨o4, w⟩ := w
    refine g_iald dX12_share_245 sh_118 (al_118 hn) (Nat.le_of_ble_eq_true rfl) o4 ?_
    refine g_aload_n dX12_share_246 rfl ?_
    refine g_iload dX12_share_247 rfl ?_
    refine g_callVI (n := 1) (As := [aI x8]) (st := [aI (h 118 (h 115 x8)), aI (h 115 x8), aP 118]) dX12_share_249 ml_X12_400 sh_97 rfl (al_97 hn) rfl rfl (Nat.le_of_ble_eq_true rfl) (RtI.mono w (fun r1 h1 w => ?_))
    refine g_iadd dX12_share_252 ?_
    refine g_iast dX12_share_253 sh_118 (al_118 hn) (Nat.le_of_ble_eq_true rfl) o4 ?_
    refine g_iinc (ls' := [aP 97, aI x1, aI x2, aI x3, aI x4, aU, aI x6, aI s0, aI (x8 + 1)]) dX12_share_254 rfl (Nat.le_of_ble_eq_true rfl) rfl rfl ?_
    refine g_goto (tgt := 177) dX12_share_257 rfl ?_
    exact g_sub (ls' := [aP 97, aI x1, aI x2, aI x3, aI x4, aU, aI x6, aI s0, aI (x8 + 1)]) ⟨Or.inr rfl, Or.inr rfl, Or.inr rfl, Or.inr rfl, Or.inr rfl, Or.inl rfl, Or.inr rfl, Or.inr rfl, Or.inr rfl, trivial⟩ w
  · refine g_iload dX12_share_222 rfl ?_
    refine g_iconst dX12_share_224 ?_
    refine g_iadd dX12_share_225 ?_
    refine g_goto (tgt := 231) dX12_share_226 rfl ?_
    refine g_istore (ls' := [aP 97, aI x1, aI x2, aI x3, aI x4, aU, aI (x6 + 1), aI s0, aI x8]) dX12_share_231 (Nat.le_of_ble_eq_true rfl) rfl rfl ?_
    refine g_aload_n dX12_share_233 rfl ?_
    refine g_getR dX12_share_234 fl_X12_93 sh_97 (al_97 hn) (fun _ _ _ => rfl) rf_97_40 ?_
    refine g_aload_n dX12_share_237 rfl ?_
    refine g_getR dX12_share_238 fl_X12_84 sh_97 (al_97 hn) (fun _ _ _ => rfl) rf_97_37 ?_
    refine g_iload dX12_share_241 rfl ?_
    refine g_iald dX12_share_243 sh_115 (al_115 hn) (Nat.le_of_ble_eq_true rfl) o1 ?_
    refine g_dup2 dX12_share_244 rfl rfl ?_
    obtain ⟨o5, w⟩ := w
    refine g_iald dX12_share_245 sh_118 (al_118 hn) (Nat.le_of_ble_eq_true rfl) o5 ?_
    refine g_aload_n dX12_share_246 rfl ?_
    refine g_iload dX12_share_247 rfl ?_
    refine g_callVI (n := 1) (As := [aI x8]) (st := [aI (h 118 (h 115 x8)), aI (h 115 x8), aP 118]) dX12_share_249 ml_X12_400 sh_97 rfl (al_97 hn) rfl rfl (Nat.le_of_ble_eq_true rfl) (RtI.mono w (fun r2 h2 w => ?_))
    refine g_iadd dX12_share_252 ?_
    refine g_iast dX12_share_253 sh_118 (al_118 hn) (Nat.le_of_ble_eq_true rfl) o5 ?_
    refine g_iinc (ls' := [aP 97, aI x1, aI x2, aI x3, aI x4, aU, aI (x6 + 1), aI s0, aI (x8 + 1)]) dX12_share_254 rfl (Nat.le_of_ble_eq_true rfl) rfl rfl ?_
    refine g_goto (tgt := 177) dX12_share_257 rfl ?_
    exact g_sub (ls' := [aP 97, aI x1, aI x2, aI x3, aI x4, aU, aI (x6 + 1), aI s0, aI (x8 + 1)]) ⟨Or.inr rfl, Or.inr rfl, Or.inr rfl, Or.inr rfl, Or.inr rfl, Or.inl rfl, Or.inr rfl, Or.inr rfl, Or.inr rfl, trivial⟩ w
theorem b_X12_share_286 {l : Launch} {D : Nat} {ζ : ZP} {h : HI} {Q : Int → HI → Prop} {x1 x2 x3 x4 x8 : Int} (hn : 144 ≤ ζ.2.2.2.2) (w : (rg x8) ∧ (rg (h 97 3)) ∧ (if (h 97 3) ≤ x8 then (G l (D + 1) 0 0 mX12_share (zz ζ) 99 [aP 97, aI x1, aI x2, aI x3, aI (x4 + 1), aU, aU, aU, aU] [] h (qI (zz ζ) Q)) else ((0 ≤ x8 ∧ x8 < 60) ∧ (0 ≤ x8 ∧ x8 < 9) ∧ G l (D + 1) 0 0 mX12_share (zz ζ) 286 [aP 97, aI x1, aI x2, aI x3, aI x4, aU, aU, aU, aI (x8 + 1)] [] (hu h 124 x8 (h 115 x8)) (qI (zz ζ) Q)))) : G l (D + 1) 0 0 mX12_share (zz ζ) 286 [aP 97, aI x1, aI x2, aI x3, aI x4, aU, aU, aU, aI x8] [] h (qI (zz ζ) Q) := by
  refine g_iload dX12_share_286 rfl ?_
  refine g_aload_n dX12_share_288 rfl ?_
  refine g_getI (J := 3) dX12_share_289 fl_X12_18 sh_97 (al_97 hn) (fun _ _ _ => rfl) rfl ?_
  obtain ⟨o1, w⟩ := w
  obtain ⟨o2, w⟩ := w
  refine g_cmp_ge (tgt := 315) dX12_share_292 rfl o1 o2 ?_
  refine ite_imp (fun w => ?_) (fun w => ?_) w
  · refine g_iinc (ls' := [aP 97, aI x1, aI x2, aI x3, aI (x4 + 1), aU, aU, aU, aI x8]) dX12_share_315 rfl (Nat.le_of_ble_eq_true rfl) rfl rfl ?_
    refine g_goto (tgt := 99) dX12_share_318 rfl ?_
    exact g_sub (ls' := [aP 97, aI x1, aI x2, aI x3, aI (x4 + 1), aU, aU, aU, aU]) ⟨Or.inr rfl, Or.inr rfl, Or.inr rfl, Or.inr rfl, Or.inr rfl, Or.inl rfl, Or.inl rfl, Or.inl rfl, Or.inl rfl, trivial⟩ w
  · refine g_aload_n dX12_share_295 rfl ?_
    refine g_getR dX12_share_296 fl_X12_111 sh_97 (al_97 hn) (fun _ _ _ => rfl) rf_97_57 ?_
    refine g_iload dX12_share_299 rfl ?_
    refine g_aload_n dX12_share_301 rfl ?_
    refine g_getR dX12_share_302 fl_X12_84 sh_97 (al_97 hn) (fun _ _ _ => rfl) rf_97_37 ?_
    refine g_iload dX12_share_305 rfl ?_
    obtain ⟨o3, w⟩ := w
    refine g_iald dX12_share_307 sh_115 (al_115 hn) (Nat.le_of_ble_eq_true rfl) o3 ?_
    obtain ⟨o4, w⟩ := w
    refine g_iast dX12_share_308 sh_124 (al_124 hn) (Nat.le_of_ble_eq_true rfl) o4 ?_
    refine g_iinc (ls' := [aP 97, aI x1, aI x2, aI x3, aI x4, aU, aU, aU, aI (x8 + 1)]) dX12_share_309 rfl (Nat.le_of_ble_eq_true rfl) rfl rfl ?_
    refine g_goto (tgt := 286) dX12_share_312 rfl ?_
    exact g_sub (ls' := [aP 97, aI x1, aI x2, aI x3, aI x4, aU, aU, aU, aI (x8 + 1)]) ⟨Or.inr rfl, Or.inr rfl, Or.inr rfl, Or.inr rfl, Or.inr rfl, Or.inl rfl, Or.inl rfl, Or.inl rfl, Or.inr rfl, trivial⟩ w
theorem e_X12_share {l : Launch} {D : Nat} {ζ : ZP} {h : HI} {Q : Int → HI → Prop} {x1 : Int} (hn : 144 ≤ ζ.2.2.2.2) (w : RtV l D mX12_taken (zz ζ) [aP 97, aI 540] (hu h 97 0 0) (fun h1 => RtI l D mX12_isIn (zz ζ) [aI x1, aI 1, aI 4] h1 (fun r2 h2 => (rg r2) ∧ (if r2 = 0 then (Q (-1) h2) else (RtI l D mX12_isIn (zz ζ) [aI (h2 97 3), aI 1, aI 9] h2 (fun r3 h3 => (rg r3) ∧ (if ¬ r3 = 0 then (G l (D + 1) 0 0 mX12_share (zz ζ) 38 [aP 97, aI x1, aI 0, aU, aU, aU, aU, aU, aU] [] h3 (qI (zz ζ) Q)) else (Q (-1) h3)))))))) : RtI l (D + 1) mX12_share (zz ζ) [aP 97, aI x1] h Q := by
  refine RtI.of 7 pn_X12 [aP 97, aI x1, aU, aU, aU, aU, aU, aU, aU] rfl rfl ?_
  refine g_aload_n dX12_share_0 rfl ?_
  refine g_iconst dX12_share_1 ?_
  refine g_putI (J := 0) dX12_share_2 fl_X12_1 sh_97 (al_97 hn) rfl rfl ?_
  refine g_aload_n dX12_share_5 rfl ?_
  refine g_sipush dX12_share_6 rfl ?_
  refine g_callVV (n := 1) (As := [aI 540]) (st := []) dX12_share_9 ml_X12_292 sh_97 rfl (al_97 hn) rfl rfl (Nat.le_of_ble_eq_true rfl) (RtV.mono w (fun h1 w => ?_))
  refine g_iload_n dX12_share_12 rfl ?_
  refine g_iconst dX12_share_13 ?_
  refine g_iconst dX12_share_14 ?_
  refine g_callSI (n := 3) (As := [aI x1, aI 1, aI 4]) (st := []) dX12_share_15 ml_X12_262 rfl rfl (Nat.le_of_ble_eq_true rfl) rfl (RtI.mono w (fun r2 h2 w => ?_))
  obtain ⟨o1, w⟩ := w
  refine g_if_eq (tgt := 34) dX12_share_18 rfl o1 ?_
  refine ite_imp (fun w => ?_) (fun w => ?_) w
  · refine g_iconst dX12_share_34 ?_
    exact g_retI dX12_share_35 rfl w
  · refine g_aload_n dX12_share_21 rfl ?_
    refine g_getI (J := 3) dX12_share_22 fl_X12_18 sh_97 (al_97 hn) (fun _ _ _ => rfl) rfl ?_
    refine g_iconst dX12_share_25 ?_
    refine g_bipush dX12_share_26 rfl ?_
    refine g_callSI (n := 3) (As := [aI (h2 97 3), aI 1, aI 9]) (st := []) dX12_share_28 ml_X12_262 rfl rfl (Nat.le_of_ble_eq_true rfl) rfl (RtI.mono w (fun r3 h3 w => ?_))
    obtain ⟨o2, w⟩ := w
    refine g_if_ne (tgt := 36) dX12_share_31 rfl o2 ?_
    refine ite_imp (fun w => ?_) (fun w => ?_) w
    · refine g_iconst dX12_share_36 ?_
      refine g_istore_n (ls' := [aP 97, aI x1, aI 0, aU, aU, aU, aU, aU, aU]) dX12_share_37 (Nat.le_of_ble_eq_true rfl) rfl rfl ?_
      exact g_sub (ls' := [aP 97, aI x1, aI 0, aU, aU, aU, aU, aU, aU]) ⟨Or.inr rfl, Or.inr rfl, Or.inr rfl, Or.inl rfl, Or.inl rfl, Or.inl rfl, Or.inl rfl, Or.inl rfl, Or.inl rfl, trivial⟩ w
    · refine g_iconst dX12_share_34 ?_
      exact g_retI dX12_share_35 rfl w
theorem e_X12_shareAt {l : Launch} {D : Nat} {ζ : ZP} {h : HI} {Q : Int → HI → Prop} {x1 : Int} (hn : 144 ≤ ζ.2.2.2.2) (w : RtI l D mX12_isIn (zz ζ) [aI x1, aI 0, aI ((h 97 58) - 1)] (hu h 97 0 0) (fun r1 h1 => (rg r1) ∧ (if r1 = 0 then (Q (-1) h1) else ((0 ≤ x1 ∧ x1 < 9) ∧ Q (h1 124 x1) h1)))) : RtI l (D + 1) mX12_shareAt (zz ζ) [aP 97, aI x1] h Q := by
  refine RtI.of 0 pn_X12 [aP 97, aI x1] rfl rfl ?_
  refine g_aload_n dX12_shareAt_0 rfl ?_
  refine g_iconst dX12_shareAt_1 ?_
  refine g_putI (J := 0) dX12_shareAt_2 fl_X12_1 sh_97 (al_97 hn) rfl rfl ?_
  refine g_iload_n dX12_shareAt_5 rfl ?_
  refine g_iconst dX12_shareAt_6 ?_
  refine g_aload_n dX12_shareAt_7 rfl ?_
  refine g_getI (J := 58) dX12_shareAt_8 fl_X12_461 sh_97 (al_97 hn) (fun _ _ _ => rfl) rfl ?_
  refine g_iconst dX12_shareAt_11 ?_
  refine g_isub dX12_shareAt_12 ?_
  refine g_callSI (n := 3) (As := [aI x1, aI 0, aI ((h 97 58) - 1)]) (st := []) dX12_shareAt_13 ml_X12_262 rfl rfl (Nat.le_of_ble_eq_true rfl) rfl (RtI.mono w (fun r1 h1 w => ?_))
  obtain ⟨o1, w⟩ := w
  refine g_if_eq (tgt := 28) dX12_shareAt_16 rfl o1 ?_
  refine ite_imp (fun w => ?_) (fun w => ?_) w
  · refine g_iconst dX12_shareAt_28 ?_
    exact g_retI dX12_shareAt_29 rfl w
  · refine g_aload_n dX12_shareAt_19 rfl ?_
    refine g_getR dX12_shareAt_20 fl_X12_111 sh_97 (al_97 hn) (fun _ _ _ => rfl) rf_97_57 ?_
    refine g_iload_n dX12_shareAt_23 rfl ?_
    obtain ⟨o2, w⟩ := w
    refine g_iald dX12_shareAt_24 sh_124 (al_124 hn) (Nat.le_of_ble_eq_true rfl) o2 ?_
    refine g_goto (tgt := 29) dX12_shareAt_25 rfl ?_
    exact g_retI dX12_shareAt_29 rfl w
theorem e_X12_isPack {l : Launch} {D : Nat} {ζ : ZP} {h : HI} {Q : Int → HI → Prop} {x1 : Int} (hn : 144 ≤ ζ.2.2.2.2) (w : RtI l D mX12_isIn (zz ζ) [aI x1, aI 0, aI ((h 99 14) - 1)] h (fun r1 h1 => (r1 = 0 ∨ r1 = 1) ∧ Q r1 h1)) : RtI l (D + 1) mX12_isPack (zz ζ) [aP 97, aI x1] h Q := by
  refine RtI.of 0 pn_X12 [aP 97, aI x1] rfl rfl ?_
  refine g_iload_n dX12_isPack_0 rfl ?_
  refine g_iconst dX12_isPack_1 ?_
  refine g_aload_n dX12_isPack_2 rfl ?_
  refine g_getR dX12_isPack_3 fl_X12_33 sh_97 (al_97 hn) (fun _ _ _ => rfl) rf_97_6 ?_
  refine g_bipush dX12_isPack_6 rfl ?_
  refine g_iald dX12_isPack_8 sh_99 (al_99 hn) (Nat.le_of_ble_eq_true rfl) (by decide) ?_
  refine g_iconst dX12_isPack_9 ?_
  refine g_isub dX12_isPack_10 ?_
  refine g_callSI (n := 3) (As := [aI x1, aI 0, aI ((h 99 14) - 1)]) (st := []) dX12_isPack_11 ml_X12_262 rfl rfl (Nat.le_of_ble_eq_true rfl) rfl (RtI.mono w (fun r1 h1 w => ?_))
  obtain ⟨o1, w⟩ := w
  exact g_retZ dX12_isPack_14 rfl o1 w
theorem b_X12_pack_71 {l : Launch} {D : Nat} {ζ : ZP} {h : HI} {Q : Int → HI → Prop} {x1 x2 x3 : Int} (hn : 144 ≤ ζ.2.2.2.2) (w : (rg x3) ∧ (rg (h 97 43)) ∧ (if (h 97 43) ≤ x3 then ((0 ≤ (1677 + (3 * (h 99 14))) ∧ (1677 + (3 * (h 99 14))) < 2819) ∧ (0 ≤ ((1677 + (3 * (h 99 14))) + 1) ∧ ((1677 + (3 * (h 99 14))) + 1) < 2819) ∧ (0 ≤ ((1677 + (3 * (h 99 14))) + 2) ∧ ((1677 + (3 * (h 99 14))) + 2) < 2819) ∧ G l (D + 1) 0 0 mX12_pack (zz ζ) 157 [aP 97, aU, aU, aI (h 99 14), aI 0] [] (hu (hu (hu h 99 (1677 + (3 * (h 99 14))) x2) 99 ((1677 + (3 * (h 99 14))) + 1) x1) 99 ((1677 + (3 * (h 99 14))) + 2) (h 97 43)) (qI (zz ζ) Q)) else ((0 ≤ x3 ∧ x3 < 60) ∧ RtI l D mX12_packOf (zz ζ) [aP 97, aI (h 114 x3)] h (fun r1 h1 => (rg r1) ∧ (if r1 < 0 then (G l (D + 1) 0 0 mX12_pack (zz ζ) 71 [aP 97, aI x1, aI x2, aI (x3 + 1), aU] [] h1 (qI (zz ζ) Q)) else (Q (-1) h1)))))) : G l (D + 1) 0 0 mX12_pack (zz ζ) 71 [aP 97, aI x1, aI x2, aI x3, aU] [] h (qI (zz ζ) Q) := by
  refine g_iload_n dX12_pack_71 rfl ?_
  refine g_aload_n dX12_pack_72 rfl ?_
  refine g_getI (J := 43) dX12_pack_73 fl_X12_397 sh_97 (al_97 hn) (fun _ _ _ => rfl) rfl ?_
  obtain ⟨o1, w⟩ := w
  obtain ⟨o2, w⟩ := w
  refine g_cmp_ge (tgt := 100) dX12_pack_76 rfl o1 o2 ?_
  refine ite_imp (fun w => ?_) (fun w => ?_) w
  · refine g_aload_n dX12_pack_100 rfl ?_
    refine g_getR dX12_pack_101 fl_X12_33 sh_97 (al_97 hn) (fun _ _ _ => rfl) rf_97_6 ?_
    refine g_bipush dX12_pack_104 rfl ?_
    refine g_iald dX12_pack_106 sh_99 (al_99 hn) (Nat.le_of_ble_eq_true rfl) (by decide) ?_
    refine g_istore_n (ls' := [aP 97, aI x1, aI x2, aI (h 99 14), aU]) dX12_pack_107 (Nat.le_of_ble_eq_true rfl) rfl rfl ?_
    refine g_aload_n dX12_pack_108 rfl ?_
    refine g_getR dX12_pack_109 fl_X12_33 sh_97 (al_97 hn) (fun _ _ _ => rfl) rf_97_6 ?_
    refine g_sipush dX12_pack_112 rfl ?_
    refine g_iconst dX12_pack_115 ?_
    refine g_iload_n dX12_pack_116 rfl ?_
    refine g_imul dX12_pack_117 ?_
    refine g_iadd dX12_pack_118 ?_
    refine g_iload_n dX12_pack_119 rfl ?_
    obtain ⟨o3, w⟩ := w
    refine g_iast dX12_pack_120 sh_99 (al_99 hn) (Nat.le_of_ble_eq_true rfl) o3 ?_
    refine g_aload_n dX12_pack_121 rfl ?_
    refine g_getR dX12_pack_122 fl_X12_33 sh_97 (al_97 hn) (fun _ _ _ => rfl) rf_97_6 ?_
    refine g_sipush dX12_pack_125 rfl ?_
    refine g_iconst dX12_pack_128 ?_
    refine g_iload_n dX12_pack_129 rfl ?_
    refine g_imul dX12_pack_130 ?_
    refine g_iadd dX12_pack_131 ?_
    refine g_iconst dX12_pack_132 ?_
    refine g_iadd dX12_pack_133 ?_
    refine g_iload_n dX12_pack_134 rfl ?_
    obtain ⟨o4, w⟩ := w
    refine g_iast dX12_pack_135 sh_99 (al_99 hn) (Nat.le_of_ble_eq_true rfl) o4 ?_
    refine g_aload_n dX12_pack_136 rfl ?_
    refine g_getR dX12_pack_137 fl_X12_33 sh_97 (al_97 hn) (fun _ _ _ => rfl) rf_97_6 ?_
    refine g_sipush dX12_pack_140 rfl ?_
    refine g_iconst dX12_pack_143 ?_
    refine g_iload_n dX12_pack_144 rfl ?_
    refine g_imul dX12_pack_145 ?_
    refine g_iadd dX12_pack_146 ?_
    refine g_iconst dX12_pack_147 ?_
    refine g_iadd dX12_pack_148 ?_
    refine g_aload_n dX12_pack_149 rfl ?_
    refine g_getI (J := 43) dX12_pack_150 fl_X12_397 sh_97 (al_97 hn) (fun _ _ _ => rfl) rfl ?_
    obtain ⟨o5, w⟩ := w
    refine g_iast dX12_pack_153 sh_99 (al_99 hn) (Nat.le_of_ble_eq_true rfl) o5 ?_
    refine g_iconst dX12_pack_154 ?_
    refine g_istore (ls' := [aP 97, aI x1, aI x2, aI (h 99 14), aI 0]) dX12_pack_155 (Nat.le_of_ble_eq_true rfl) rfl rfl ?_
    exact g_sub (ls' := [aP 97, aU, aU, aI (h 99 14), aI 0]) ⟨Or.inr rfl, Or.inl rfl, Or.inl rfl, Or.inr rfl, Or.inr rfl, trivial⟩ w
  · refine g_aload_n dX12_pack_79 rfl ?_
    refine g_aload_n dX12_pack_80 rfl ?_
    refine g_getR dX12_pack_81 fl_X12_81 sh_97 (al_97 hn) (fun _ _ _ => rfl) rf_97_36 ?_
    refine g_iload_n dX12_pack_84 rfl ?_
    obtain ⟨o6, w⟩ := w
    refine g_iald dX12_pack_85 sh_114 (al_114 hn) (Nat.le_of_ble_eq_true rfl) o6 ?_
    refine g_callVI (n := 1) (As := [aI (h 114 x3)]) (st := []) dX12_pack_86 ml_X12_332 sh_97 rfl (al_97 hn) rfl rfl (Nat.le_of_ble_eq_true rfl) (RtI.mono w (fun r1 h1 w => ?_))
    obtain ⟨o7, w⟩ := w
    refine g_if_lt (tgt := 94) dX12_pack_89 rfl o7 ?_
    refine ite_imp (fun w => ?_) (fun w => ?_) w
    · refine g_iinc (ls' := [aP 97, aI x1, aI x2, aI (x3 + 1), aU]) dX12_pack_94 rfl (Nat.le_of_ble_eq_true rfl) rfl rfl ?_
      refine g_goto (tgt := 71) dX12_pack_97 rfl ?_
      exact g_sub (ls' := [aP 97, aI x1, aI x2, aI (x3 + 1), aU]) ⟨Or.inr rfl, Or.inr rfl, Or.inr rfl, Or.inr rfl, Or.inl rfl, trivial⟩ w
    · refine g_iconst dX12_pack_92 ?_
      exact g_retI dX12_pack_93 rfl w
theorem b_X12_pack_157 {l : Launch} {D : Nat} {ζ : ZP} {h : HI} {Q : Int → HI → Prop} {x3 x4 : Int} (hn : 144 ≤ ζ.2.2.2.2) (w : (rg x4) ∧ (rg (h 97 43)) ∧ (if (h 97 43) ≤ x4 then (Q x3 (hu h 99 14 ((h 99 14) + 1))) else ((0 ≤ x4 ∧ x4 < 60) ∧ (0 ≤ ((1707 + (40 * x3)) + x4) ∧ ((1707 + (40 * x3)) + x4) < 2819) ∧ (0 ≤ ((2107 + (40 * x3)) + x4) ∧ ((2107 + (40 * x3)) + x4) < 2819) ∧ G l (D + 1) 0 0 mX12_pack (zz ζ) 157 [aP 97, aU, aU, aI x3, aI (x4 + 1)] [] (hu (hu h 99 ((1707 + (40 * x3)) + x4) (h 114 x4)) 99 ((2107 + (40 * x3)) + x4) (h 114 x4)) (qI (zz ζ) Q)))) : G l (D + 1) 0 0 mX12_pack (zz ζ) 157 [aP 97, aU, aU, aI x3, aI x4] [] h (qI (zz ζ) Q) := by
  refine g_iload dX12_pack_157 rfl ?_
  refine g_aload_n dX12_pack_159 rfl ?_
  refine g_getI (J := 43) dX12_pack_160 fl_X12_397 sh_97 (al_97 hn) (fun _ _ _ => rfl) rfl ?_
  obtain ⟨o1, w⟩ := w
  obtain ⟨o2, w⟩ := w
  refine g_cmp_ge (tgt := 218) dX12_pack_163 rfl o1 o2 ?_
  refine ite_imp (fun w => ?_) (fun w => ?_) w
  · refine g_aload_n dX12_pack_218 rfl ?_
    refine g_getR dX12_pack_219 fl_X12_33 sh_97 (al_97 hn) (fun _ _ _ => rfl) rf_97_6 ?_
    refine g_bipush dX12_pack_222 rfl ?_
    refine g_dup2 dX12_pack_224 rfl rfl ?_
    refine g_iald dX12_pack_225 sh_99 (al_99 hn) (Nat.le_of_ble_eq_true rfl) (by decide) ?_
    refine g_iconst dX12_pack_226 ?_
    refine g_iadd dX12_pack_227 ?_
    refine g_iast dX12_pack_228 sh_99 (al_99 hn) (Nat.le_of_ble_eq_true rfl) (by decide) ?_
    refine g_iload_n dX12_pack_229 rfl ?_
    exact g_retI dX12_pack_230 rfl w
  · refine g_aload_n dX12_pack_166 rfl ?_
    refine g_getR dX12_pack_167 fl_X12_33 sh_97 (al_97 hn) (fun _ _ _ => rfl) rf_97_6 ?_
    refine g_sipush dX12_pack_170 rfl ?_
    refine g_bipush dX12_pack_173 rfl ?_
    refine g_iload_n dX12_pack_175 rfl ?_
    refine g_imul dX12_pack_176 ?_
    refine g_iadd dX12_pack_177 ?_
    refine g_iload dX12_pack_178 rfl ?_
    refine g_iadd dX12_pack_180 ?_
    refine g_aload_n dX12_pack_181 rfl ?_
    refine g_getR dX12_pack_182 fl_X12_81 sh_97 (al_97 hn) (fun _ _ _ => rfl) rf_97_36 ?_
    refine g_iload dX12_pack_185 rfl ?_
    obtain ⟨o3, w⟩ := w
    refine g_iald dX12_pack_187 sh_114 (al_114 hn) (Nat.le_of_ble_eq_true rfl) o3 ?_
    obtain ⟨o4, w⟩ := w
    refine g_iast dX12_pack_188 sh_99 (al_99 hn) (Nat.le_of_ble_eq_true rfl) o4 ?_
    refine g_aload_n dX12_pack_189 rfl ?_
    refine g_getR dX12_pack_190 fl_X12_33 sh_97 (al_97 hn) (fun _ _ _ => rfl) rf_97_6 ?_
    refine g_sipush dX12_pack_193 rfl ?_
    refine g_bipush dX12_pack_196 rfl ?_
    refine g_iload_n dX12_pack_198 rfl ?_
    refine g_imul dX12_pack_199 ?_
    refine g_iadd dX12_pack_200 ?_
    refine g_iload dX12_pack_201 rfl ?_
    refine g_iadd dX12_pack_203 ?_
    refine g_aload_n dX12_pack_204 rfl ?_
    refine g_getR dX12_pack_205 fl_X12_81 sh_97 (al_97 hn) (fun _ _ _ => rfl) rf_97_36 ?_
    refine g_iload dX12_pack_208 rfl ?_
    refine g_iald dX12_pack_210 sh_114 (al_114 hn) (Nat.le_of_ble_eq_true rfl) o3 ?_
    obtain ⟨o5, w⟩ := w
    refine g_iast dX12_pack_211 sh_99 (al_99 hn) (Nat.le_of_ble_eq_true rfl) o5 ?_
    refine g_iinc (ls' := [aP 97, aU, aU, aI x3, aI (x4 + 1)]) dX12_pack_212 rfl (Nat.le_of_ble_eq_true rfl) rfl rfl ?_
    refine g_goto (tgt := 157) dX12_pack_215 rfl ?_
    exact g_sub (ls' := [aP 97, aU, aU, aI x3, aI (x4 + 1)]) ⟨Or.inr rfl, Or.inl rfl, Or.inl rfl, Or.inr rfl, Or.inr rfl, trivial⟩ w
theorem e_X12_pack {l : Launch} {D : Nat} {ζ : ZP} {h : HI} {Q : Int → HI → Prop} {x1 x2 : Int} (hn : 144 ≤ ζ.2.2.2.2) (w : RtV l D mX12_taken (zz ζ) [aP 97, aI 540] (hu h 97 0 0) (fun h1 => (rg (h1 99 14)) ∧ (if (h1 99 14) = 10 then (Q (-1) h1) else (RtI l D mX12_tells (zz ζ) [aP 97, aI 2, aI 40] h1 (fun r2 h2 => (rg r2) ∧ (if r2 = 0 then (Q (-1) h2) else ((rg x1) ∧ (if x1 < 1 then (Q (-1) h2) else ((rg (h2 97 43)) ∧ (if (h2 97 43) < x1 then (Q (-1) h2) else ((x1 ≠ 0) ∧ (rg ((h2 97 43).tmod x1)) ∧ (if ¬ ((h2 97 43).tmod x1) = 0 then (Q (-1) h2) else (RtI l D mX12_isIn (zz ζ) [aI x2, aI 0, aI 999] h2 (fun r3 h3 => (rg r3) ∧ (if ¬ r3 = 0 then (G l (D + 1) 0 0 mX12_pack (zz ζ) 71 [aP 97, aI x1, aI x2, aI 0, aU] [] h3 (qI (zz ζ) Q)) else (Q (-1) h3)))))))))))))))) : RtI l (D + 1) mX12_pack (zz ζ) [aP 97, aI x1, aI x2] h Q := by
  refine RtI.of 2 pn_X12 [aP 97, aI x1, aI x2, aU, aU] rfl rfl ?_
  refine g_aload_n dX12_pack_0 rfl ?_
  refine g_iconst dX12_pack_1 ?_
  refine g_putI (J := 0) dX12_pack_2 fl_X12_1 sh_97 (al_97 hn) rfl rfl ?_
  refine g_aload_n dX12_pack_5 rfl ?_
  refine g_sipush dX12_pack_6 rfl ?_
  refine g_callVV (n := 1) (As := [aI 540]) (st := []) dX12_pack_9 ml_X12_292 sh_97 rfl (al_97 hn) rfl rfl (Nat.le_of_ble_eq_true rfl) (RtV.mono w (fun h1 w => ?_))
  refine g_aload_n dX12_pack_12 rfl ?_
  refine g_getR dX12_pack_13 fl_X12_33 sh_97 (al_97 hn) (fun _ _ _ => rfl) rf_97_6 ?_
  refine g_bipush dX12_pack_16 rfl ?_
  refine g_iald dX12_pack_18 sh_99 (al_99 hn) (Nat.le_of_ble_eq_true rfl) (by decide) ?_
  refine g_bipush dX12_pack_19 rfl ?_
  obtain ⟨o1, w⟩ := w
  refine g_cmp_eq (tgt := 67) dX12_pack_21 rfl o1 (by decide) ?_
  refine ite_imp (fun w => ?_) (fun w => ?_) w
  · refine g_iconst dX12_pack_67 ?_
    exact g_retI dX12_pack_68 rfl w
  · refine g_aload_n dX12_pack_24 rfl ?_
    refine g_iconst dX12_pack_25 ?_
    refine g_bipush dX12_pack_26 rfl ?_
    refine g_callVI (n := 2) (As := [aI 2, aI 40]) (st := []) dX12_pack_28 ml_X12_412 sh_97 rfl (al_97 hn) rfl rfl (Nat.le_of_ble_eq_true rfl) (RtI.mono w (fun r2 h2 w => ?_))
    obtain ⟨o2, w⟩ := w
    refine g_if_eq (tgt := 67) dX12_pack_31 rfl o2 ?_
    refine ite_imp (fun w => ?_) (fun w => ?_) w
    · refine g_iconst dX12_pack_67 ?_
      exact g_retI dX12_pack_68 rfl w
    · refine g_iload_n dX12_pack_34 rfl ?_
      refine g_iconst dX12_pack_35 ?_
      obtain ⟨o3, w⟩ := w
      refine g_cmp_lt (tgt := 67) dX12_pack_36 rfl o3 (by decide) ?_
      refine ite_imp (fun w => ?_) (fun w => ?_) w
      · refine g_iconst dX12_pack_67 ?_
        exact g_retI dX12_pack_68 rfl w
      · refine g_iload_n dX12_pack_39 rfl ?_
        refine g_aload_n dX12_pack_40 rfl ?_
        refine g_getI (J := 43) dX12_pack_41 fl_X12_397 sh_97 (al_97 hn) (fun _ _ _ => rfl) rfl ?_
        obtain ⟨o4, w⟩ := w
        refine g_cmp_gt (tgt := 67) dX12_pack_44 rfl o3 o4 ?_
        refine ite_imp (fun w => ?_) (fun w => ?_) w
        · refine g_iconst dX12_pack_67 ?_
          exact g_retI dX12_pack_68 rfl w
        · refine g_aload_n dX12_pack_47 rfl ?_
          refine g_getI (J := 43) dX12_pack_48 fl_X12_397 sh_97 (al_97 hn) (fun _ _ _ => rfl) rfl ?_
          refine g_iload_n dX12_pack_51 rfl ?_
          obtain ⟨o5, w⟩ := w
          refine g_irem dX12_pack_52 o4 o3 o5 ?_
          obtain ⟨o6, w⟩ := w
          refine g_if_ne (tgt := 67) dX12_pack_53 rfl o6 ?_
          refine ite_imp (fun w => ?_) (fun w => ?_) w
          · refine g_iconst dX12_pack_67 ?_
            exact g_retI dX12_pack_68 rfl w
          · refine g_iload_n dX12_pack_56 rfl ?_
            refine g_iconst dX12_pack_57 ?_
            refine g_sipush dX12_pack_58 rfl ?_
            refine g_callSI (n := 3) (As := [aI x2, aI 0, aI 999]) (st := []) dX12_pack_61 ml_X12_262 rfl rfl (Nat.le_of_ble_eq_true rfl) rfl (RtI.mono w (fun r3 h3 w => ?_))
            obtain ⟨o7, w⟩ := w
            refine g_if_ne (tgt := 69) dX12_pack_64 rfl o7 ?_
            refine ite_imp (fun w => ?_) (fun w => ?_) w
            · refine g_iconst dX12_pack_69 ?_
              refine g_istore_n (ls' := [aP 97, aI x1, aI x2, aI 0, aU]) dX12_pack_70 (Nat.le_of_ble_eq_true rfl) rfl rfl ?_
              exact g_sub (ls' := [aP 97, aI x1, aI x2, aI 0, aU]) ⟨Or.inr rfl, Or.inr rfl, Or.inr rfl, Or.inr rfl, Or.inl rfl, trivial⟩ w
            · refine g_iconst dX12_pack_67 ?_
              exact g_retI dX12_pack_68 rfl w
theorem e_X12_rowsIn {l : Launch} {D : Nat} {ζ : ZP} {h : HI} {Q : Int → HI → Prop} {x1 : Int} (hn : 144 ≤ ζ.2.2.2.2) (w : (0 ≤ ((1677 + (3 * x1)) + 1) ∧ ((1677 + (3 * x1)) + 1) < 2819) ∧ Q (h 99 ((1677 + (3 * x1)) + 1)) h) : RtI l (D + 1) mX12_rowsIn (zz ζ) [aP 97, aI x1] h Q := by
  refine RtI.of 0 pn_X12 [aP 97, aI x1] rfl rfl ?_
  refine g_aload_n dX12_rowsIn_0 rfl ?_
  refine g_getR dX12_rowsIn_1 fl_X12_33 sh_97 (al_97 hn) (fun _ _ _ => rfl) rf_97_6 ?_
  refine g_sipush dX12_rowsIn_4 rfl ?_
  refine g_iconst dX12_rowsIn_7 ?_
  refine g_iload_n dX12_rowsIn_8 rfl ?_
  refine g_imul dX12_rowsIn_9 ?_
  refine g_iadd dX12_rowsIn_10 ?_
  refine g_iconst dX12_rowsIn_11 ?_
  refine g_iadd dX12_rowsIn_12 ?_
  obtain ⟨o1, w⟩ := w
  refine g_iald dX12_rowsIn_13 sh_99 (al_99 hn) (Nat.le_of_ble_eq_true rfl) o1 ?_
  exact g_retI dX12_rowsIn_14 rfl w
theorem e_X12_wide {l : Launch} {D : Nat} {ζ : ZP} {h : HI} {Q : Int → HI → Prop} {x1 : Int} (hn : 144 ≤ ζ.2.2.2.2) (w : (0 ≤ ((1677 + (3 * x1)) + 2) ∧ ((1677 + (3 * x1)) + 2) < 2819) ∧ (0 ≤ ((1677 + (3 * x1)) + 1) ∧ ((1677 + (3 * x1)) + 1) < 2819) ∧ (rg (h 99 ((1677 + (3 * x1)) + 2))) ∧ (rg (h 99 ((1677 + (3 * x1)) + 1))) ∧ ((h 99 ((1677 + (3 * x1)) + 1)) ≠ 0) ∧ Q ((h 99 ((1677 + (3 * x1)) + 2)).tdiv (h 99 ((1677 + (3 * x1)) + 1))) h) : RtI l (D + 1) mX12_wide (zz ζ) [aP 97, aI x1] h Q := by
  refine RtI.of 0 pn_X12 [aP 97, aI x1] rfl rfl ?_
  refine g_aload_n dX12_wide_0 rfl ?_
  refine g_getR dX12_wide_1 fl_X12_33 sh_97 (al_97 hn) (fun _ _ _ => rfl) rf_97_6 ?_
  refine g_sipush dX12_wide_4 rfl ?_
  refine g_iconst dX12_wide_7 ?_
  refine g_iload_n dX12_wide_8 rfl ?_
  refine g_imul dX12_wide_9 ?_
  refine g_iadd dX12_wide_10 ?_
  refine g_iconst dX12_wide_11 ?_
  refine g_iadd dX12_wide_12 ?_
  obtain ⟨o1, w⟩ := w
  refine g_iald dX12_wide_13 sh_99 (al_99 hn) (Nat.le_of_ble_eq_true rfl) o1 ?_
  refine g_aload_n dX12_wide_14 rfl ?_
  refine g_getR dX12_wide_15 fl_X12_33 sh_97 (al_97 hn) (fun _ _ _ => rfl) rf_97_6 ?_
  refine g_sipush dX12_wide_18 rfl ?_
  refine g_iconst dX12_wide_21 ?_
  refine g_iload_n dX12_wide_22 rfl ?_
  refine g_imul dX12_wide_23 ?_
  refine g_iadd dX12_wide_24 ?_
  refine g_iconst dX12_wide_25 ?_
  refine g_iadd dX12_wide_26 ?_
  obtain ⟨o2, w⟩ := w
  refine g_iald dX12_wide_27 sh_99 (al_99 hn) (Nat.le_of_ble_eq_true rfl) o2 ?_
  obtain ⟨o3, w⟩ := w
  obtain ⟨o4, w⟩ := w
  obtain ⟨o5, w⟩ := w
  refine g_idiv dX12_wide_28 o3 o4 o5 ?_
  exact g_retI dX12_wide_29 rfl w
theorem b_X12_holdOf_5 {l : Launch} {D : Nat} {ζ : ZP} {h : HI} {Q : Int → HI → Prop} {x1 x2 x3 x4 : Int} (hn : 144 ≤ ζ.2.2.2.2) (w : RtI l D mX12_wide (zz ζ) [aP 97, aI x1] h (fun r1 h1 => (rg x4) ∧ (rg r1) ∧ (if r1 ≤ x4 then (Q x3 h1) else (RtI l D mX12_wide (zz ζ) [aP 97, aI x1] h1 (fun r2 h2 => (0 ≤ (((2107 + (40 * x1)) + (r2 * x2)) + x4) ∧ (((2107 + (40 * x1)) + (r2 * x2)) + x4) < 2819) ∧ (0 ≤ (h2 99 (((2107 + (40 * x1)) + (r2 * x2)) + x4)) ∧ (h2 99 (((2107 + (40 * x1)) + (r2 * x2)) + x4)) < 60) ∧ G l (D + 1) 0 0 mX12_holdOf (zz ζ) 5 [aP 97, aI x1, aI x2, aI (x3 + (h2 106 (h2 99 (((2107 + (40 * x1)) + (r2 * x2)) + x4)))), aI (x4 + 1)] [] h2 (qI (zz ζ) Q)))))) : G l (D + 1) 0 0 mX12_holdOf (zz ζ) 5 [aP 97, aI x1, aI x2, aI x3, aI x4] [] h (qI (zz ζ) Q) := by
  refine g_iload dX12_holdOf_5 rfl ?_
  refine g_aload_n dX12_holdOf_7 rfl ?_
  refine g_iload_n dX12_holdOf_8 rfl ?_
  refine g_callVI (n := 1) (As := [aI x1]) (st := [aI x4]) dX12_holdOf_9 ml_X12_464 sh_97 rfl (al_97 hn) rfl rfl (Nat.le_of_ble_eq_true rfl) (RtI.mono w (fun r1 h1 w => ?_))
  obtain ⟨o1, w⟩ := w
  obtain ⟨o2, w⟩ := w
  refine g_cmp_ge (tgt := 53) dX12_holdOf_12 rfl o1 o2 ?_
  refine ite_imp (fun w => ?_) (fun w => ?_) w
  · refine g_iload_n dX12_holdOf_53 rfl ?_
    exact g_retI dX12_holdOf_54 rfl w
  · refine g_iload_n dX12_holdOf_15 rfl ?_
    refine g_aload_n dX12_holdOf_16 rfl ?_
    refine g_getR dX12_holdOf_17 fl_X12_57 sh_97 (al_97 hn) (fun _ _ _ => rfl) rf_97_23 ?_
    refine g_aload_n dX12_holdOf_20 rfl ?_
    refine g_getR dX12_holdOf_21 fl_X12_33 sh_97 (al_97 hn) (fun _ _ _ => rfl) rf_97_6 ?_
    refine g_sipush dX12_holdOf_24 rfl ?_
    refine g_bipush dX12_holdOf_27 rfl ?_
    refine g_iload_n dX12_holdOf_29 rfl ?_
    refine g_imul dX12_holdOf_30 ?_
    refine g_iadd dX12_holdOf_31 ?_
    refine g_aload_n dX12_holdOf_32 rfl ?_
    refine g_iload_n dX12_holdOf_33 rfl ?_
    refine g_callVI (n := 1) (As := [aI x1]) (st := [aI (2107 + (40 * x1)), aP 99, aP 106, aI x3]) dX12_holdOf_34 ml_X12_464 sh_97 rfl (al_97 hn) rfl rfl (Nat.le_of_ble_eq_true rfl) (RtI.mono w (fun r2 h2 w => ?_))
    refine g_iload_n dX12_holdOf_37 rfl ?_
    refine g_imul dX12_holdOf_38 ?_
    refine g_iadd dX12_holdOf_39 ?_
    refine g_iload dX12_holdOf_40 rfl ?_
    refine g_iadd dX12_holdOf_42 ?_
    obtain ⟨o3, w⟩ := w
    refine g_iald dX12_holdOf_43 sh_99 (al_99 hn) (Nat.le_of_ble_eq_true rfl) o3 ?_
    obtain ⟨o4, w⟩ := w
    refine g_iald dX12_holdOf_44 sh_106 (al_106 hn) (Nat.le_of_ble_eq_true rfl) o4 ?_
    refine g_iadd dX12_holdOf_45 ?_
    refine g_istore_n (ls' := [aP 97, aI x1, aI x2, aI (x3 + (h2 106 (h2 99 (((2107 + (40 * x1)) + (r2 * x2)) + x4)))), aI x4]) dX12_holdOf_46 (Nat.le_of_ble_eq_true rfl) rfl rfl ?_
    refine g_iinc (ls' := [aP 97, aI x1, aI x2, aI (x3 + (h2 106 (h2 99 (((2107 + (40 * x1)) + (r2 * x2)) + x4)))), aI (x4 + 1)]) dX12_holdOf_47 rfl (Nat.le_of_ble_eq_true rfl) rfl rfl ?_
    refine g_goto (tgt := 5) dX12_holdOf_50 rfl ?_
    exact g_sub (ls' := [aP 97, aI x1, aI x2, aI (x3 + (h2 106 (h2 99 (((2107 + (40 * x1)) + (r2 * x2)) + x4)))), aI (x4 + 1)]) ⟨Or.inr rfl, Or.inr rfl, Or.inr rfl, Or.inr rfl, Or.inr rfl, trivial⟩ w
theorem e_X12_holdOf {l : Launch} {D : Nat} {ζ : ZP} {h : HI} {Q : Int → HI → Prop} {x1 x2 : Int} (hn : 144 ≤ ζ.2.2.2.2) (w : G l (D + 1) 0 0 mX12_holdOf (zz ζ) 5 [aP 97, aI x1, aI x2, aI 0, aI 0] [] h (qI (zz ζ) Q)) : RtI l (D + 1) mX12_holdOf (zz ζ) [aP 97, aI x1, aI x2] h Q := by
  refine RtI.of 2 pn_X12 [aP 97, aI x1, aI x2, aU, aU] rfl rfl ?_
  refine g_iconst dX12_holdOf_0 ?_
  refine g_istore_n (ls' := [aP 97, aI x1, aI x2, aI 0, aU]) dX12_holdOf_1 (Nat.le_of_ble_eq_true rfl) rfl rfl ?_
  refine g_iconst dX12_holdOf_2 ?_
  refine g_istore (ls' := [aP 97, aI x1, aI x2, aI 0, aI 0]) dX12_holdOf_3 (Nat.le_of_ble_eq_true rfl) rfl rfl ?_
  exact g_sub (ls' := [aP 97, aI x1, aI x2, aI 0, aI 0]) ⟨Or.inr rfl, Or.inr rfl, Or.inr rfl, Or.inr rfl, Or.inr rfl, trivial⟩ w
theorem b_X12_flowIn_5 {l : Launch} {D : Nat} {ζ : ZP} {h : HI} {Q : Int → HI → Prop} {x1 x2 x3 x4 : Int} (hn : 144 ≤ ζ.2.2.2.2) (w : RtI l D mX12_wide (zz ζ) [aP 97, aI x1] h (fun r1 h1 => (rg x4) ∧ (rg r1) ∧ (if r1 ≤ x4 then (Q x3 h1) else (RtI l D mX12_wide (zz ζ) [aP 97, aI x1] h1 (fun r2 h2 => (0 ≤ (((2107 + (40 * x1)) + (r2 * x2)) + x4) ∧ (((2107 + (40 * x1)) + (r2 * x2)) + x4) < 2819) ∧ RtI l D mX12_flowOf (zz ζ) [aP 97, aI (h2 99 (((2107 + (40 * x1)) + (r2 * x2)) + x4))] h2 (fun r3 h3 => G l (D + 1) 0 0 mX12_flowIn (zz ζ) 5 [aP 97, aI x1, aI x2, aI (x3 + r3), aI (x4 + 1)] [] h3 (qI (zz ζ) Q))))))) : G l (D + 1) 0 0 mX12_flowIn (zz ζ) 5 [aP 97, aI x1, aI x2, aI x3, aI x4] [] h (qI (zz ζ) Q) := by
  refine g_iload dX12_flowIn_5 rfl ?_
  refine g_aload_n dX12_flowIn_7 rfl ?_
  refine g_iload_n dX12_flowIn_8 rfl ?_
  refine g_callVI (n := 1) (As := [aI x1]) (st := [aI x4]) dX12_flowIn_9 ml_X12_464 sh_97 rfl (al_97 hn) rfl rfl (Nat.le_of_ble_eq_true rfl) (RtI.mono w (fun r1 h1 w => ?_))
  obtain ⟨o1, w⟩ := w
  obtain ⟨o2, w⟩ := w
  refine g_cmp_ge (tgt := 52) dX12_flowIn_12 rfl o1 o2 ?_
  refine ite_imp (fun w => ?_) (fun w => ?_) w
  · refine g_iload_n dX12_flowIn_52 rfl ?_
    exact g_retI dX12_flowIn_53 rfl w
  · refine g_iload_n dX12_flowIn_15 rfl ?_
    refine g_aload_n dX12_flowIn_16 rfl ?_
    refine g_aload_n dX12_flowIn_17 rfl ?_
    refine g_getR dX12_flowIn_18 fl_X12_33 sh_97 (al_97 hn) (fun _ _ _ => rfl) rf_97_6 ?_
    refine g_sipush dX12_flowIn_21 rfl ?_
    refine g_bipush dX12_flowIn_24 rfl ?_
    refine g_iload_n dX12_flowIn_26 rfl ?_
    refine g_imul dX12_flowIn_27 ?_
    refine g_iadd dX12_flowIn_28 ?_
    refine g_aload_n dX12_flowIn_29 rfl ?_
    refine g_iload_n dX12_flowIn_30 rfl ?_
    refine g_callVI (n := 1) (As := [aI x1]) (st := [aI (2107 + (40 * x1)), aP 99, aP 97, aI x3]) dX12_flowIn_31 ml_X12_464 sh_97 rfl (al_97 hn) rfl rfl (Nat.le_of_ble_eq_true rfl) (RtI.mono w (fun r2 h2 w => ?_))
    refine g_iload_n dX12_flowIn_34 rfl ?_
    refine g_imul dX12_flowIn_35 ?_
    refine g_iadd dX12_flowIn_36 ?_
    refine g_iload dX12_flowIn_37 rfl ?_
    refine g_iadd dX12_flowIn_39 ?_
    obtain ⟨o3, w⟩ := w
    refine g_iald dX12_flowIn_40 sh_99 (al_99 hn) (Nat.le_of_ble_eq_true rfl) o3 ?_
    refine g_callVI (n := 1) (As := [aI (h2 99 (((2107 + (40 * x1)) + (r2 * x2)) + x4))]) (st := [aI x3]) dX12_flowIn_41 ml_X12_328 sh_97 rfl (al_97 hn) rfl rfl (Nat.le_of_ble_eq_true rfl) (RtI.mono w (fun r3 h3 w => ?_))
    refine g_iadd dX12_flowIn_44 ?_
    refine g_istore_n (ls' := [aP 97, aI x1, aI x2, aI (x3 + r3), aI x4]) dX12_flowIn_45 (Nat.le_of_ble_eq_true rfl) rfl rfl ?_
    refine g_iinc (ls' := [aP 97, aI x1, aI x2, aI (x3 + r3), aI (x4 + 1)]) dX12_flowIn_46 rfl (Nat.le_of_ble_eq_true rfl) rfl rfl ?_
    refine g_goto (tgt := 5) dX12_flowIn_49 rfl ?_
    exact g_sub (ls' := [aP 97, aI x1, aI x2, aI (x3 + r3), aI (x4 + 1)]) ⟨Or.inr rfl, Or.inr rfl, Or.inr rfl, Or.inr rfl, Or.inr rfl, trivial⟩ w
theorem e_X12_flowIn {l : Launch} {D : Nat} {ζ : ZP} {h : HI} {Q : Int → HI → Prop} {x1 x2 : Int} (hn : 144 ≤ ζ.2.2.2.2) (w : G l (D + 1) 0 0 mX12_flowIn (zz ζ) 5 [aP 97, aI x1, aI x2, aI 0, aI 0] [] h (qI (zz ζ) Q)) : RtI l (D + 1) mX12_flowIn (zz ζ) [aP 97, aI x1, aI x2] h Q := by
  refine RtI.of 2 pn_X12 [aP 97, aI x1, aI x2, aU, aU] rfl rfl ?_
  refine g_iconst dX12_flowIn_0 ?_
  refine g_istore_n (ls' := [aP 97, aI x1, aI x2, aI 0, aU]) dX12_flowIn_1 (Nat.le_of_ble_eq_true rfl) rfl rfl ?_
  refine g_iconst dX12_flowIn_2 ?_
  refine g_istore (ls' := [aP 97, aI x1, aI x2, aI 0, aI 0]) dX12_flowIn_3 (Nat.le_of_ble_eq_true rfl) rfl rfl ?_
  exact g_sub (ls' := [aP 97, aI x1, aI x2, aI 0, aI 0]) ⟨Or.inr rfl, Or.inr rfl, Or.inr rfl, Or.inr rfl, Or.inr rfl, trivial⟩ w
theorem b_X12_cyclesOf_67 {l : Launch} {D : Nat} {ζ : ZP} {h : HI} {Q : Int → HI → Prop} {x10 x11 x4 x6 x8 : Int} (hn : 144 ≤ ζ.2.2.2.2) (w : (rg x10) ∧ (rg x11) ∧ (if x11 ≤ x10 then (Q x10 h) else ((rg (x10 + x11)) ∧ (rg ((x10 + x11).tdiv 2)) ∧ (rl (x6 * (1000000 - (((x10 + x11).tdiv 2) * x4)))) ∧ (rl x8) ∧ (if x8 ≤ (x6 * (1000000 - (((x10 + x11).tdiv 2) * x4))) then (G l (D + 1) 0 0 mX12_cyclesOf (zz ζ) 67 [aU, aU, aU, aU, aL x4, aU, aL x6, aU, aL x8, aU, aI (((x10 + x11).tdiv 2) + 1), aI x11, aU] [] h (qI (zz ζ) Q)) else (G l (D + 1) 0 0 mX12_cyclesOf (zz ζ) 67 [aU, aU, aU, aU, aL x4, aU, aL x6, aU, aL x8, aU, aI x10, aI ((x10 + x11).tdiv 2), aU] [] h (qI (zz ζ) Q)))))) : G l (D + 1) 0 0 mX12_cyclesOf (zz ζ) 67 [aU, aU, aU, aU, aL x4, aU, aL x6, aU, aL x8, aU, aI x10, aI x11, aU] [] h (qI (zz ζ) Q) := by
  refine g_iload dX12_cyclesOf_67 rfl ?_
  refine g_iload dX12_cyclesOf_69 rfl ?_
  obtain ⟨o1, w⟩ := w
  obtain ⟨o2, w⟩ := w
  refine g_cmp_ge (tgt := 118) dX12_cyclesOf_71 rfl o1 o2 ?_
  refine ite_imp (fun w => ?_) (fun w => ?_) w
  · refine g_iload dX12_cyclesOf_118 rfl ?_
    exact g_retI dX12_cyclesOf_120 rfl w
  · refine g_iload dX12_cyclesOf_74 rfl ?_
    refine g_iload dX12_cyclesOf_76 rfl ?_
    refine g_iadd dX12_cyclesOf_78 ?_
    refine g_iconst dX12_cyclesOf_79 ?_
    obtain ⟨o3, w⟩ := w
    refine g_idiv dX12_cyclesOf_80 o3 (by decide) (by decide) ?_
    refine g_istore (ls' := [aU, aU, aU, aU, aL x4, aU, aL x6, aU, aL x8, aU, aI x10, aI x11, aI ((x10 + x11).tdiv 2)]) dX12_cyclesOf_81 (Nat.le_of_ble_eq_true rfl) rfl rfl ?_
    refine g_lload dX12_cyclesOf_83 rfl ?_
    refine g_ldc2 (n := 1000000) dX12_cyclesOf_85 kl_X12_475 rfl ?_
    refine g_iload dX12_cyclesOf_88 rfl ?_
    obtain ⟨o4, w⟩ := w
    refine g_i2l dX12_cyclesOf_90 o4 ?_
    refine g_lload dX12_cyclesOf_91 rfl ?_
    refine g_lmul dX12_cyclesOf_93 ?_
    refine g_lsub dX12_cyclesOf_94 ?_
    refine g_lmul dX12_cyclesOf_95 ?_
    refine g_lload dX12_cyclesOf_96 rfl ?_
    obtain ⟨o5, w⟩ := w
    obtain ⟨o6, w⟩ := w
    refine g_lcmp dX12_cyclesOf_98 o5 o6 ?_
    refine g_if_ge (tgt := 109) dX12_cyclesOf_99 rfl (rg_lcm3 _ _) ?_
    refine ite_imp2 lcm3_ge (fun w => ?_) (fun w => ?_) w
    · refine g_iload dX12_cyclesOf_109 rfl ?_
      refine g_iconst dX12_cyclesOf_111 ?_
      refine g_iadd dX12_cyclesOf_112 ?_
      refine g_istore (ls' := [aU, aU, aU, aU, aL x4, aU, aL x6, aU, aL x8, aU, aI (((x10 + x11).tdiv 2) + 1), aI x11, aI ((x10 + x11).tdiv 2)]) dX12_cyclesOf_113 (Nat.le_of_ble_eq_true rfl) rfl rfl ?_
      refine g_goto (tgt := 67) dX12_cyclesOf_115 rfl ?_
      exact g_sub (ls' := [aU, aU, aU, aU, aL x4, aU, aL x6, aU, aL x8, aU, aI (((x10 + x11).tdiv 2) + 1), aI x11, aU]) ⟨Or.inl rfl, Or.inl rfl, Or.inl rfl, Or.inl rfl, Or.inr rfl, Or.inl rfl, Or.inr rfl, Or.inl rfl, Or.inr rfl, Or.inl rfl, Or.inr rfl, Or.inr rfl, Or.inl rfl, trivial⟩ w
    · refine g_iload dX12_cyclesOf_102 rfl ?_
      refine g_istore (ls' := [aU, aU, aU, aU, aL x4, aU, aL x6, aU, aL x8, aU, aI x10, aI ((x10 + x11).tdiv 2), aI ((x10 + x11).tdiv 2)]) dX12_cyclesOf_104 (Nat.le_of_ble_eq_true rfl) rfl rfl ?_
      refine g_goto (tgt := 115) dX12_cyclesOf_106 rfl ?_
      refine g_goto (tgt := 67) dX12_cyclesOf_115 rfl ?_
      exact g_sub (ls' := [aU, aU, aU, aU, aL x4, aU, aL x6, aU, aL x8, aU, aI x10, aI ((x10 + x11).tdiv 2), aU]) ⟨Or.inl rfl, Or.inl rfl, Or.inl rfl, Or.inl rfl, Or.inr rfl, Or.inl rfl, Or.inr rfl, Or.inl rfl, Or.inr rfl, Or.inl rfl, Or.inr rfl, Or.inr rfl, Or.inl rfl, trivial⟩ w
theorem e_X12_cyclesOf {l : Launch} {D : Nat} {ζ : ZP} {h : HI} {Q : Int → HI → Prop} {x1 x2 : Int} (hn : 144 ≤ ζ.2.2.2.2) (w : RtI l D mX12_flowIn (zz ζ) [aP 97, aI x1, aI x2] h (fun r1 h1 => (rg r1) ∧ (r1 ≠ 0) ∧ (rg (h1 99 2)) ∧ (rg ((h1 99 3) * ((1000000 : Int).tdiv r1))) ∧ (rg (((h1 99 3) * ((1000000 : Int).tdiv r1)).tdiv 10)) ∧ RtI l D mX12_holdOf (zz ζ) [aP 97, aI x1, aI x2] h1 (fun r2 h2 => (rg r2) ∧ (rg (h2 99 4)) ∧ G l (D + 1) 0 0 mX12_cyclesOf (zz ζ) 67 [aU, aU, aU, aU, aL ((10 * (h1 99 2)) + (((h1 99 3) * ((1000000 : Int).tdiv r1)).tdiv 10)), aU, aL r2, aU, aL ((h2 99 4) * 1000000), aU, aI 0, aI 100000, aU] [] h2 (qI (zz ζ) Q)))) : RtI l (D + 1) mX12_cyclesOf (zz ζ) [aP 97, aI x1, aI x2] h Q := by
  refine RtI.of 10 pn_X12 [aP 97, aI x1, aI x2, aU, aU, aU, aU, aU, aU, aU, aU, aU, aU] rfl rfl ?_
  refine g_ldcw (n := 1000000) dX12_cyclesOf_0 ko_X12_327 rfl ?_
  refine g_aload_n dX12_cyclesOf_3 rfl ?_
  refine g_iload_n dX12_cyclesOf_4 rfl ?_
  refine g_iload_n dX12_cyclesOf_5 rfl ?_
  refine g_callVI (n := 2) (As := [aI x1, aI x2]) (st := [aI 1000000]) dX12_cyclesOf_6 ml_X12_467 sh_97 rfl (al_97 hn) rfl rfl (Nat.le_of_ble_eq_true rfl) (RtI.mono w (fun r1 h1 w => ?_))
  obtain ⟨o1, w⟩ := w
  obtain ⟨o2, w⟩ := w
  refine g_idiv dX12_cyclesOf_9 (by decide) o1 o2 ?_
  refine g_istore_n (ls' := [aP 97, aI x1, aI x2, aI ((1000000 : Int).tdiv r1), aU, aU, aU, aU, aU, aU, aU, aU, aU]) dX12_cyclesOf_10 (Nat.le_of_ble_eq_true rfl) rfl rfl ?_
  refine g_ldc2 (n := 10) dX12_cyclesOf_11 kl_X12_470 rfl ?_
  refine g_aload_n dX12_cyclesOf_14 rfl ?_
  refine g_getR dX12_cyclesOf_15 fl_X12_33 sh_97 (al_97 hn) (fun _ _ _ => rfl) rf_97_6 ?_
  refine g_iconst dX12_cyclesOf_18 ?_
  refine g_iald dX12_cyclesOf_19 sh_99 (al_99 hn) (Nat.le_of_ble_eq_true rfl) (by decide) ?_
  obtain ⟨o3, w⟩ := w
  refine g_i2l dX12_cyclesOf_20 o3 ?_
  refine g_lmul dX12_cyclesOf_21 ?_
  refine g_aload_n dX12_cyclesOf_22 rfl ?_
  refine g_getR dX12_cyclesOf_23 fl_X12_33 sh_97 (al_97 hn) (fun _ _ _ => rfl) rf_97_6 ?_
  refine g_iconst dX12_cyclesOf_26 ?_
  refine g_iald dX12_cyclesOf_27 sh_99 (al_99 hn) (Nat.le_of_ble_eq_true rfl) (by decide) ?_
  refine g_iload_n dX12_cyclesOf_28 rfl ?_
  refine g_imul dX12_cyclesOf_29 ?_
  refine g_bipush dX12_cyclesOf_30 rfl ?_
  obtain ⟨o4, w⟩ := w
  refine g_idiv dX12_cyclesOf_32 o4 (by decide) (by decide) ?_
  obtain ⟨o5, w⟩ := w
  refine g_i2l dX12_cyclesOf_33 o5 ?_
  refine g_ladd dX12_cyclesOf_34 ?_
  refine g_lstore (ls' := [aP 97, aI x1, aI x2, aI ((1000000 : Int).tdiv r1), aL ((10 * (h1 99 2)) + (((h1 99 3) * ((1000000 : Int).tdiv r1)).tdiv 10)), aU, aU, aU, aU, aU, aU, aU, aU]) dX12_cyclesOf_35 (Nat.le_of_ble_eq_true rfl) rfl rfl ?_
  refine g_aload_n dX12_cyclesOf_37 rfl ?_
  refine g_iload_n dX12_cyclesOf_38 rfl ?_
  refine g_iload_n dX12_cyclesOf_39 rfl ?_
  refine g_callVI (n := 2) (As := [aI x1, aI x2]) (st := []) dX12_cyclesOf_40 ml_X12_472 sh_97 rfl (al_97 hn) rfl rfl (Nat.le_of_ble_eq_true rfl) (RtI.mono w (fun r2 h2 w => ?_))
  obtain ⟨o6, w⟩ := w
  refine g_i2l dX12_cyclesOf_43 o6 ?_
  refine g_lstore (ls' := [aP 97, aI x1, aI x2, aI ((1000000 : Int).tdiv r1), aL ((10 * (h1 99 2)) + (((h1 99 3) * ((1000000 : Int).tdiv r1)).tdiv 10)), aU, aL r2, aU, aU, aU, aU, aU, aU]) dX12_cyclesOf_44 (Nat.le_of_ble_eq_true rfl) rfl rfl ?_
  refine g_aload_n dX12_cyclesOf_46 rfl ?_
  refine g_getR dX12_cyclesOf_47 fl_X12_33 sh_97 (al_97 hn) (fun _ _ _ => rfl) rf_97_6 ?_
  refine g_iconst dX12_cyclesOf_50 ?_
  refine g_iald dX12_cyclesOf_51 sh_99 (al_99 hn) (Nat.le_of_ble_eq_true rfl) (by decide) ?_
  obtain ⟨o7, w⟩ := w
  refine g_i2l dX12_cyclesOf_52 o7 ?_
  refine g_ldc2 (n := 1000000) dX12_cyclesOf_53 kl_X12_475 rfl ?_
  refine g_lmul dX12_cyclesOf_56 ?_
  refine g_lstore (ls' := [aP 97, aI x1, aI x2, aI ((1000000 : Int).tdiv r1), aL ((10 * (h1 99 2)) + (((h1 99 3) * ((1000000 : Int).tdiv r1)).tdiv 10)), aU, aL r2, aU, aL ((h2 99 4) * 1000000), aU, aU, aU, aU]) dX12_cyclesOf_57 (Nat.le_of_ble_eq_true rfl) rfl rfl ?_
  refine g_iconst dX12_cyclesOf_59 ?_
  refine g_istore (ls' := [aP 97, aI x1, aI x2, aI ((1000000 : Int).tdiv r1), aL ((10 * (h1 99 2)) + (((h1 99 3) * ((1000000 : Int).tdiv r1)).tdiv 10)), aU, aL r2, aU, aL ((h2 99 4) * 1000000), aU, aI 0, aU, aU]) dX12_cyclesOf_60 (Nat.le_of_ble_eq_true rfl) rfl rfl ?_
  refine g_ldcw (n := 100000) dX12_cyclesOf_62 ko_X12_477 rfl ?_
  refine g_istore (ls' := [aP 97, aI x1, aI x2, aI ((1000000 : Int).tdiv r1), aL ((10 * (h1 99 2)) + (((h1 99 3) * ((1000000 : Int).tdiv r1)).tdiv 10)), aU, aL r2, aU, aL ((h2 99 4) * 1000000), aU, aI 0, aI 100000, aU]) dX12_cyclesOf_65 (Nat.le_of_ble_eq_true rfl) rfl rfl ?_
  exact g_sub (ls' := [aU, aU, aU, aU, aL ((10 * (h1 99 2)) + (((h1 99 3) * ((1000000 : Int).tdiv r1)).tdiv 10)), aU, aL r2, aU, aL ((h2 99 4) * 1000000), aU, aI 0, aI 100000, aU]) ⟨Or.inl rfl, Or.inl rfl, Or.inl rfl, Or.inl rfl, Or.inr rfl, Or.inl rfl, Or.inr rfl, Or.inl rfl, Or.inr rfl, Or.inl rfl, Or.inr rfl, Or.inr rfl, Or.inl rfl, trivial⟩ w
theorem b_X12_row_50 {l : Launch} {D : Nat} {ζ : ZP} {h : HI} {Q : Int → HI → Prop} {s0 x1 x2 x3 : Int} (hn : 144 ≤ ζ.2.2.2.2) (w : RtI l D mX12_throwsIf (zz ζ) [aP 97, aI s0] h (fun r1 h1 => (rg r1) ∧ (if r1 = 0 then (RtV l D mX12_settle (zz ζ) [aP 97] h1 (fun h2 => (rg x3) ∧ (if ¬ x3 = 0 then (if ¬ x3 = 1 then (RtI l D mX12_cyclesOf (zz ζ) [aP 97, aI x1, aI x2] h2 (fun r3 h3 => Q r3 h3)) else (RtI l D mX12_flowIn (zz ζ) [aP 97, aI x1, aI x2] h2 (fun r4 h4 => Q r4 h4))) else (RtI l D mX12_holdOf (zz ζ) [aP 97, aI x1, aI x2] h2 (fun r5 h5 => Q r5 h5))))) else (Q 0 h1)))) : G l (D + 1) 0 0 mX12_row (zz ζ) 50 [aP 97, aI x1, aI x2, aI x3] [aI s0, aP 97] h (qI (zz ζ) Q) := by
  refine g_callVI (n := 1) (As := [aI s0]) (st := []) dX12_row_50 ml_X12_320 sh_97 rfl (al_97 hn) rfl rfl (Nat.le_of_ble_eq_true rfl) (RtI.mono w (fun r1 h1 w => ?_))
  obtain ⟨o1, w⟩ := w
  refine g_if_eq (tgt := 58) dX12_row_53 rfl o1 ?_
  refine ite_imp (fun w => ?_) (fun w => ?_) w
  · refine g_aload_n dX12_row_58 rfl ?_
    refine g_callVV (n := 0) (As := []) (st := []) dX12_row_59 ml_X12_324 sh_97 rfl (al_97 hn) rfl rfl (Nat.le_of_ble_eq_true rfl) (RtV.mono w (fun h2 w => ?_))
    refine g_iload_n dX12_row_62 rfl ?_
    obtain ⟨o2, w⟩ := w
    refine g_if_ne (tgt := 75) dX12_row_63 rfl o2 ?_
    refine ite_imp (fun w => ?_) (fun w => ?_) w
    · refine g_iload_n dX12_row_75 rfl ?_
      refine g_iconst dX12_row_76 ?_
      refine g_cmp_ne (tgt := 89) dX12_row_77 rfl o2 (by decide) ?_
      refine ite_imp (fun w => ?_) (fun w => ?_) w
      · refine g_aload_n dX12_row_89 rfl ?_
        refine g_iload_n dX12_row_90 rfl ?_
        refine g_iload_n dX12_row_91 rfl ?_
        refine g_callVI (n := 2) (As := [aI x1, aI x2]) (st := []) dX12_row_92 ml_X12_484 sh_97 rfl (al_97 hn) rfl rfl (Nat.le_of_ble_eq_true rfl) (RtI.mono w (fun r3 h3 w => ?_))
        exact g_retI dX12_row_95 rfl w
      · refine g_aload_n dX12_row_80 rfl ?_
        refine g_iload_n dX12_row_81 rfl ?_
        refine g_iload_n dX12_row_82 rfl ?_
        refine g_callVI (n := 2) (As := [aI x1, aI x2]) (st := []) dX12_row_83 ml_X12_467 sh_97 rfl (al_97 hn) rfl rfl (Nat.le_of_ble_eq_true rfl) (RtI.mono w (fun r4 h4 w => ?_))
        refine g_goto (tgt := 95) dX12_row_86 rfl ?_
        exact g_retI dX12_row_95 rfl w
    · refine g_aload_n dX12_row_66 rfl ?_
      refine g_iload_n dX12_row_67 rfl ?_
      refine g_iload_n dX12_row_68 rfl ?_
      refine g_callVI (n := 2) (As := [aI x1, aI x2]) (st := []) dX12_row_69 ml_X12_472 sh_97 rfl (al_97 hn) rfl rfl (Nat.le_of_ble_eq_true rfl) (RtI.mono w (fun r5 h5 w => ?_))
      refine g_goto (tgt := 95) dX12_row_72 rfl ?_
      exact g_retI dX12_row_95 rfl w
  · refine g_iconst dX12_row_56 ?_
    exact g_retI dX12_row_57 rfl w
theorem e_X12_row {l : Launch} {D : Nat} {ζ : ZP} {h : HI} {Q : Int → HI → Prop} {x1 x2 x3 : Int} (hn : 144 ≤ ζ.2.2.2.2) (w : RtI l D mX12_isPack (zz ζ) [aP 97, aI x1] h (fun r1 h1 => (rg r1) ∧ (if r1 = 0 then (G l (D + 1) 0 0 mX12_row (zz ζ) 50 [aP 97, aI x1, aI x2, aI x3] [aI 1, aP 97] h1 (qI (zz ζ) Q)) else (RtI l D mX12_isPack (zz ζ) [aP 97, aI x1] h1 (fun r2 h2 => (rg r2) ∧ (if r2 = 0 then (RtI l D mX12_isIn (zz ζ) [aI x2, aI 0, aI 0] h2 (fun r3 h3 => (rg r3) ∧ (if r3 = 0 then (G l (D + 1) 0 0 mX12_row (zz ζ) 50 [aP 97, aI x1, aI x2, aI x3] [aI 1, aP 97] h3 (qI (zz ζ) Q)) else (RtI l D mX12_isIn (zz ζ) [aI x3, aI 0, aI 2] h3 (fun r4 h4 => (rg r4) ∧ (if ¬ r4 = 0 then (G l (D + 1) 0 0 mX12_row (zz ζ) 50 [aP 97, aI x1, aI x2, aI x3] [aI 0, aP 97] h4 (qI (zz ζ) Q)) else (G l (D + 1) 0 0 mX12_row (zz ζ) 50 [aP 97, aI x1, aI x2, aI x3] [aI 1, aP 97] h4 (qI (zz ζ) Q)))))))) else (RtI l D mX12_rowsIn (zz ζ) [aP 97, aI x1] h2 (fun r5 h5 => RtI l D mX12_isIn (zz ζ) [aI x2, aI 0, aI (r5 - 1)] h5 (fun r6 h6 => (rg r6) ∧ (if r6 = 0 then (G l (D + 1) 0 0 mX12_row (zz ζ) 50 [aP 97, aI x1, aI x2, aI x3] [aI 1, aP 97] h6 (qI (zz ζ) Q)) else (RtI l D mX12_isIn (zz ζ) [aI x3, aI 0, aI 2] h6 (fun r7 h7 => (rg r7) ∧ (if ¬ r7 = 0 then (G l (D + 1) 0 0 mX12_row (zz ζ) 50 [aP 97, aI x1, aI x2, aI x3] [aI 0, aP 97] h7 (qI (zz ζ) Q)) else (G l (D + 1) 0 0 mX12_row (zz ζ) 50 [aP 97, aI x1, aI x2, aI x3] [aI 1, aP 97] h7 (qI (zz ζ) Q))))))))))))))) : RtI l (D + 1) mX12_row (zz ζ) [aP 97, aI x1, aI x2, aI x3] h Q := by
  refine RtI.of 0 pn_X12 [aP 97, aI x1, aI x2, aI x3] rfl rfl ?_
  refine g_aload_n dX12_row_0 rfl ?_
  refine g_aload_n dX12_row_1 rfl ?_
  refine g_iload_n dX12_row_2 rfl ?_
  refine g_callVI (n := 1) (As := [aI x1]) (st := [aP 97]) dX12_row_3 ml_X12_478 sh_97 rfl (al_97 hn) rfl rfl (Nat.le_of_ble_eq_true rfl) (RtI.mono w (fun r1 h1 w => ?_))
  obtain ⟨o1, w⟩ := w
  refine g_if_eq (tgt := 45) dX12_row_6 rfl o1 ?_
  refine ite_imp (fun w => ?_) (fun w => ?_) w
  · refine g_iconst dX12_row_45 ?_
    refine g_goto (tgt := 50) dX12_row_46 rfl ?_
    exact g_sub (ls' := [aP 97, aI x1, aI x2, aI x3]) ⟨Or.inr rfl, Or.inr rfl, Or.inr rfl, Or.inr rfl, trivial⟩ w
  · refine g_iload_n dX12_row_9 rfl ?_
    refine g_iconst dX12_row_10 ?_
    refine g_aload_n dX12_row_11 rfl ?_
    refine g_iload_n dX12_row_12 rfl ?_
    refine g_callVI (n := 1) (As := [aI x1]) (st := [aI 0, aI x2, aP 97]) dX12_row_13 ml_X12_478 sh_97 rfl (al_97 hn) rfl rfl (Nat.le_of_ble_eq_true rfl) (RtI.mono w (fun r2 h2 w => ?_))
    obtain ⟨o2, w⟩ := w
    refine g_if_eq (tgt := 29) dX12_row_16 rfl o2 ?_
    refine ite_imp (fun w => ?_) (fun w => ?_) w
    · refine g_iconst dX12_row_29 ?_
      refine g_callSI (n := 3) (As := [aI x2, aI 0, aI 0]) (st := [aP 97]) dX12_row_30 ml_X12_262 rfl rfl (Nat.le_of_ble_eq_true rfl) rfl (RtI.mono w (fun r3 h3 w => ?_))
      obtain ⟨o3, w⟩ := w
      refine g_if_eq (tgt := 45) dX12_row_33 rfl o3 ?_
      refine ite_imp (fun w => ?_) (fun w => ?_) w
      · refine g_iconst dX12_row_45 ?_
        refine g_goto (tgt := 50) dX12_row_46 rfl ?_
        exact g_sub (ls' := [aP 97, aI x1, aI x2, aI x3]) ⟨Or.inr rfl, Or.inr rfl, Or.inr rfl, Or.inr rfl, trivial⟩ w
      · refine g_iload_n dX12_row_36 rfl ?_
        refine g_iconst dX12_row_37 ?_
        refine g_iconst dX12_row_38 ?_
        refine g_callSI (n := 3) (As := [aI x3, aI 0, aI 2]) (st := [aP 97]) dX12_row_39 ml_X12_262 rfl rfl (Nat.le_of_ble_eq_true rfl) rfl (RtI.mono w (fun r4 h4 w => ?_))
        obtain ⟨o4, w⟩ := w
        refine g_if_ne (tgt := 49) dX12_row_42 rfl o4 ?_
        refine ite_imp (fun w => ?_) (fun w => ?_) w
        · refine g_iconst dX12_row_49 ?_
          exact g_sub (ls' := [aP 97, aI x1, aI x2, aI x3]) ⟨Or.inr rfl, Or.inr rfl, Or.inr rfl, Or.inr rfl, trivial⟩ w
        · refine g_iconst dX12_row_45 ?_
          refine g_goto (tgt := 50) dX12_row_46 rfl ?_
          exact g_sub (ls' := [aP 97, aI x1, aI x2, aI x3]) ⟨Or.inr rfl, Or.inr rfl, Or.inr rfl, Or.inr rfl, trivial⟩ w
    · refine g_aload_n dX12_row_19 rfl ?_
      refine g_iload_n dX12_row_20 rfl ?_
      refine g_callVI (n := 1) (As := [aI x1]) (st := [aI 0, aI x2, aP 97]) dX12_row_21 ml_X12_481 sh_97 rfl (al_97 hn) rfl rfl (Nat.le_of_ble_eq_true rfl) (RtI.mono w (fun r5 h5 w => ?_))
      refine g_iconst dX12_row_24 ?_
      refine g_isub dX12_row_25 ?_
      refine g_goto (tgt := 30) dX12_row_26 rfl ?_
      refine g_callSI (n := 3) (As := [aI x2, aI 0, aI (r5 - 1)]) (st := [aP 97]) dX12_row_30 ml_X12_262 rfl rfl (Nat.le_of_ble_eq_true rfl) rfl (RtI.mono w (fun r6 h6 w => ?_))
      obtain ⟨o5, w⟩ := w
      refine g_if_eq (tgt := 45) dX12_row_33 rfl o5 ?_
      refine ite_imp (fun w => ?_) (fun w => ?_) w
      · refine g_iconst dX12_row_45 ?_
        refine g_goto (tgt := 50) dX12_row_46 rfl ?_
        exact g_sub (ls' := [aP 97, aI x1, aI x2, aI x3]) ⟨Or.inr rfl, Or.inr rfl, Or.inr rfl, Or.inr rfl, trivial⟩ w
      · refine g_iload_n dX12_row_36 rfl ?_
        refine g_iconst dX12_row_37 ?_
        refine g_iconst dX12_row_38 ?_
        refine g_callSI (n := 3) (As := [aI x3, aI 0, aI 2]) (st := [aP 97]) dX12_row_39 ml_X12_262 rfl rfl (Nat.le_of_ble_eq_true rfl) rfl (RtI.mono w (fun r7 h7 w => ?_))
        obtain ⟨o6, w⟩ := w
        refine g_if_ne (tgt := 49) dX12_row_42 rfl o6 ?_
        refine ite_imp (fun w => ?_) (fun w => ?_) w
        · refine g_iconst dX12_row_49 ?_
          exact g_sub (ls' := [aP 97, aI x1, aI x2, aI x3]) ⟨Or.inr rfl, Or.inr rfl, Or.inr rfl, Or.inr rfl, trivial⟩ w
        · refine g_iconst dX12_row_45 ?_
          refine g_goto (tgt := 50) dX12_row_46 rfl ?_
          exact g_sub (ls' := [aP 97, aI x1, aI x2, aI x3]) ⟨Or.inr rfl, Or.inr rfl, Or.inr rfl, Or.inr rfl, trivial⟩ w
theorem e_X12_inPack {l : Launch} {D : Nat} {ζ : ZP} {h : HI} {Q : Int → HI → Prop} {x1 x2 : Int} (hn : 144 ≤ ζ.2.2.2.2) (w : RtI l D mX12_isPack (zz ζ) [aP 97, aI x1] (hu h 97 0 0) (fun r1 h1 => (rg r1) ∧ (if r1 = 0 then (Q (-1) h1) else ((0 ≤ ((1677 + (3 * x1)) + 2) ∧ ((1677 + (3 * x1)) + 2) < 2819) ∧ RtI l D mX12_isIn (zz ζ) [aI x2, aI 0, aI ((h1 99 ((1677 + (3 * x1)) + 2)) - 1)] h1 (fun r2 h2 => (rg r2) ∧ (if r2 = 0 then (Q (-1) h2) else ((0 ≤ ((2107 + (40 * x1)) + x2) ∧ ((2107 + (40 * x1)) + x2) < 2819) ∧ Q (h2 99 ((2107 + (40 * x1)) + x2)) h2))))))) : RtI l (D + 1) mX12_inPack (zz ζ) [aP 97, aI x1, aI x2] h Q := by
  refine RtI.of 0 pn_X12 [aP 97, aI x1, aI x2] rfl rfl ?_
  refine g_aload_n dX12_inPack_0 rfl ?_
  refine g_iconst dX12_inPack_1 ?_
  refine g_putI (J := 0) dX12_inPack_2 fl_X12_1 sh_97 (al_97 hn) rfl rfl ?_
  refine g_aload_n dX12_inPack_5 rfl ?_
  refine g_iload_n dX12_inPack_6 rfl ?_
  refine g_callVI (n := 1) (As := [aI x1]) (st := []) dX12_inPack_7 ml_X12_478 sh_97 rfl (al_97 hn) rfl rfl (Nat.le_of_ble_eq_true rfl) (RtI.mono w (fun r1 h1 w => ?_))
  obtain ⟨o1, w⟩ := w
  refine g_if_eq (tgt := 55) dX12_inPack_10 rfl o1 ?_
  refine ite_imp (fun w => ?_) (fun w => ?_) w
  · refine g_iconst dX12_inPack_55 ?_
    exact g_retI dX12_inPack_56 rfl w
  · refine g_iload_n dX12_inPack_13 rfl ?_
    refine g_iconst dX12_inPack_14 ?_
    refine g_aload_n dX12_inPack_15 rfl ?_
    refine g_getR dX12_inPack_16 fl_X12_33 sh_97 (al_97 hn) (fun _ _ _ => rfl) rf_97_6 ?_
    refine g_sipush dX12_inPack_19 rfl ?_
    refine g_iconst dX12_inPack_22 ?_
    refine g_iload_n dX12_inPack_23 rfl ?_
    refine g_imul dX12_inPack_24 ?_
    refine g_iadd dX12_inPack_25 ?_
    refine g_iconst dX12_inPack_26 ?_
    refine g_iadd dX12_inPack_27 ?_
    obtain ⟨o2, w⟩ := w
    refine g_iald dX12_inPack_28 sh_99 (al_99 hn) (Nat.le_of_ble_eq_true rfl) o2 ?_
    refine g_iconst dX12_inPack_29 ?_
    refine g_isub dX12_inPack_30 ?_
    refine g_callSI (n := 3) (As := [aI x2, aI 0, aI ((h1 99 ((1677 + (3 * x1)) + 2)) - 1)]) (st := []) dX12_inPack_31 ml_X12_262 rfl rfl (Nat.le_of_ble_eq_true rfl) rfl (RtI.mono w (fun r2 h2 w => ?_))
    obtain ⟨o3, w⟩ := w
    refine g_if_eq (tgt := 55) dX12_inPack_34 rfl o3 ?_
    refine ite_imp (fun w => ?_) (fun w => ?_) w
    · refine g_iconst dX12_inPack_55 ?_
      exact g_retI dX12_inPack_56 rfl w
    · refine g_aload_n dX12_inPack_37 rfl ?_
      refine g_getR dX12_inPack_38 fl_X12_33 sh_97 (al_97 hn) (fun _ _ _ => rfl) rf_97_6 ?_
      refine g_sipush dX12_inPack_41 rfl ?_
      refine g_bipush dX12_inPack_44 rfl ?_
      refine g_iload_n dX12_inPack_46 rfl ?_
      refine g_imul dX12_inPack_47 ?_
      refine g_iadd dX12_inPack_48 ?_
      refine g_iload_n dX12_inPack_49 rfl ?_
      refine g_iadd dX12_inPack_50 ?_
      obtain ⟨o4, w⟩ := w
      refine g_iald dX12_inPack_51 sh_99 (al_99 hn) (Nat.le_of_ble_eq_true rfl) o4 ?_
      refine g_goto (tgt := 56) dX12_inPack_52 rfl ?_
      exact g_retI dX12_inPack_56 rfl w
theorem b_X12_endOf_4 {l : Launch} {D : Nat} {ζ : ZP} {h : HI} {Q : Int → HI → Prop} {x1 x2 x3 : Int} (hn : 144 ≤ ζ.2.2.2.2) (w : RtI l D mX12_rowsIn (zz ζ) [aP 97, aI x1] h (fun r1 h1 => (rg x3) ∧ (rg r1) ∧ (if r1 ≤ x3 then (Q x2 h1) else (RtI l D mX12_cyclesOf (zz ζ) [aP 97, aI x1, aI x3] h1 (fun r2 h2 => RtI l D mX12_cyclesOf (zz ζ) [aP 97, aI x1, aI x2] h2 (fun r3 h3 => (rg r2) ∧ (rg r3) ∧ (if r3 ≤ r2 then (G l (D + 1) 0 0 mX12_endOf (zz ζ) 4 [aP 97, aI x1, aI x2, aI (x3 + 1)] [] h3 (qI (zz ζ) Q)) else (G l (D + 1) 0 0 mX12_endOf (zz ζ) 4 [aP 97, aI x1, aI x3, aI (x3 + 1)] [] h3 (qI (zz ζ) Q))))))))) : G l (D + 1) 0 0 mX12_endOf (zz ζ) 4 [aP 97, aI x1, aI x2, aI x3] [] h (qI (zz ζ) Q) := by
  refine g_iload_n dX12_endOf_4 rfl ?_
  refine g_aload_n dX12_endOf_5 rfl ?_
  refine g_iload_n dX12_endOf_6 rfl ?_
  refine g_callVI (n := 1) (As := [aI x1]) (st := [aI x3]) dX12_endOf_7 ml_X12_481 sh_97 rfl (al_97 hn) rfl rfl (Nat.le_of_ble_eq_true rfl) (RtI.mono w (fun r1 h1 w => ?_))
  obtain ⟨o1, w⟩ := w
  obtain ⟨o2, w⟩ := w
  refine g_cmp_ge (tgt := 40) dX12_endOf_10 rfl o1 o2 ?_
  refine ite_imp (fun w => ?_) (fun w => ?_) w
  · refine g_iload_n dX12_endOf_40 rfl ?_
    exact g_retI dX12_endOf_41 rfl w
  · refine g_aload_n dX12_endOf_13 rfl ?_
    refine g_iload_n dX12_endOf_14 rfl ?_
    refine g_iload_n dX12_endOf_15 rfl ?_
    refine g_callVI (n := 2) (As := [aI x1, aI x3]) (st := []) dX12_endOf_16 ml_X12_484 sh_97 rfl (al_97 hn) rfl rfl (Nat.le_of_ble_eq_true rfl) (RtI.mono w (fun r2 h2 w => ?_))
    refine g_aload_n dX12_endOf_19 rfl ?_
    refine g_iload_n dX12_endOf_20 rfl ?_
    refine g_iload_n dX12_endOf_21 rfl ?_
    refine g_callVI (n := 2) (As := [aI x1, aI x2]) (st := [aI r2]) dX12_endOf_22 ml_X12_484 sh_97 rfl (al_97 hn) rfl rfl (Nat.le_of_ble_eq_true rfl) (RtI.mono w (fun r3 h3 w => ?_))
    obtain ⟨o3, w⟩ := w
    obtain ⟨o4, w⟩ := w
    refine g_cmp_ge (tgt := 32) dX12_endOf_25 rfl o3 o4 ?_
    refine ite_imp (fun w => ?_) (fun w => ?_) w
    · refine g_iload_n dX12_endOf_32 rfl ?_
      refine g_istore_n (ls' := [aP 97, aI x1, aI x2, aI x3]) dX12_endOf_33 (Nat.le_of_ble_eq_true rfl) rfl rfl ?_
      refine g_iinc (ls' := [aP 97, aI x1, aI x2, aI (x3 + 1)]) dX12_endOf_34 rfl (Nat.le_of_ble_eq_true rfl) rfl rfl ?_
      refine g_goto (tgt := 4) dX12_endOf_37 rfl ?_
      exact g_sub (ls' := [aP 97, aI x1, aI x2, aI (x3 + 1)]) ⟨Or.inr rfl, Or.inr rfl, Or.inr rfl, Or.inr rfl, trivial⟩ w
    · refine g_iload_n dX12_endOf_28 rfl ?_
      refine g_goto (tgt := 33) dX12_endOf_29 rfl ?_
      refine g_istore_n (ls' := [aP 97, aI x1, aI x3, aI x3]) dX12_endOf_33 (Nat.le_of_ble_eq_true rfl) rfl rfl ?_
      refine g_iinc (ls' := [aP 97, aI x1, aI x3, aI (x3 + 1)]) dX12_endOf_34 rfl (Nat.le_of_ble_eq_true rfl) rfl rfl ?_
      refine g_goto (tgt := 4) dX12_endOf_37 rfl ?_
      exact g_sub (ls' := [aP 97, aI x1, aI x3, aI (x3 + 1)]) ⟨Or.inr rfl, Or.inr rfl, Or.inr rfl, Or.inr rfl, trivial⟩ w
theorem e_X12_endOf {l : Launch} {D : Nat} {ζ : ZP} {h : HI} {Q : Int → HI → Prop} {x1 : Int} (hn : 144 ≤ ζ.2.2.2.2) (w : G l (D + 1) 0 0 mX12_endOf (zz ζ) 4 [aP 97, aI x1, aI 0, aI 1] [] h (qI (zz ζ) Q)) : RtI l (D + 1) mX12_endOf (zz ζ) [aP 97, aI x1] h Q := by
  refine RtI.of 2 pn_X12 [aP 97, aI x1, aU, aU] rfl rfl ?_
  refine g_iconst dX12_endOf_0 ?_
  refine g_istore_n (ls' := [aP 97, aI x1, aI 0, aU]) dX12_endOf_1 (Nat.le_of_ble_eq_true rfl) rfl rfl ?_
  refine g_iconst dX12_endOf_2 ?_
  refine g_istore_n (ls' := [aP 97, aI x1, aI 0, aI 1]) dX12_endOf_3 (Nat.le_of_ble_eq_true rfl) rfl rfl ?_
  exact g_sub (ls' := [aP 97, aI x1, aI 0, aI 1]) ⟨Or.inr rfl, Or.inr rfl, Or.inr rfl, Or.inr rfl, trivial⟩ w
theorem e_X12_life {l : Launch} {D : Nat} {ζ : ZP} {h : HI} {Q : Int → HI → Prop} {x1 : Int} (hn : 144 ≤ ζ.2.2.2.2) (w : RtI l D mX12_isPack (zz ζ) [aP 97, aI x1] (hu h 97 0 0) (fun r1 h1 => (rg r1) ∧ (if ¬ r1 = 0 then (RtV l D mX12_settle (zz ζ) [aP 97] h1 (fun h2 => RtI l D mX12_endOf (zz ζ) [aP 97, aI x1] h2 (fun r3 h3 => RtI l D mX12_cyclesOf (zz ζ) [aP 97, aI x1, aI r3] h3 (fun r4 h4 => Q r4 h4)))) else (Q (-1) h1)))) : RtI l (D + 1) mX12_life (zz ζ) [aP 97, aI x1] h Q := by
  refine RtI.of 0 pn_X12 [aP 97, aI x1] rfl rfl ?_
  refine g_aload_n dX12_life_0 rfl ?_
  refine g_iconst dX12_life_1 ?_
  refine g_putI (J := 0) dX12_life_2 fl_X12_1 sh_97 (al_97 hn) rfl rfl ?_
  refine g_aload_n dX12_life_5 rfl ?_
  refine g_iload_n dX12_life_6 rfl ?_
  refine g_callVI (n := 1) (As := [aI x1]) (st := []) dX12_life_7 ml_X12_478 sh_97 rfl (al_97 hn) rfl rfl (Nat.le_of_ble_eq_true rfl) (RtI.mono w (fun r1 h1 w => ?_))
  obtain ⟨o1, w⟩ := w
  refine g_if_ne (tgt := 15) dX12_life_10 rfl o1 ?_
  refine ite_imp (fun w => ?_) (fun w => ?_) w
  · refine g_aload_n dX12_life_15 rfl ?_
    refine g_callVV (n := 0) (As := []) (st := []) dX12_life_16 ml_X12_324 sh_97 rfl (al_97 hn) rfl rfl (Nat.le_of_ble_eq_true rfl) (RtV.mono w (fun h2 w => ?_))
    refine g_aload_n dX12_life_19 rfl ?_
    refine g_iload_n dX12_life_20 rfl ?_
    refine g_aload_n dX12_life_21 rfl ?_
    refine g_iload_n dX12_life_22 rfl ?_
    refine g_callVI (n := 1) (As := [aI x1]) (st := [aI x1, aP 97]) dX12_life_23 ml_X12_487 sh_97 rfl (al_97 hn) rfl rfl (Nat.le_of_ble_eq_true rfl) (RtI.mono w (fun r3 h3 w => ?_))
    refine g_callVI (n := 2) (As := [aI x1, aI r3]) (st := []) dX12_life_26 ml_X12_484 sh_97 rfl (al_97 hn) rfl rfl (Nat.le_of_ble_eq_true rfl) (RtI.mono w (fun r4 h4 w => ?_))
    exact g_retI dX12_life_29 rfl w
  · refine g_iconst dX12_life_13 ?_
    exact g_retI dX12_life_14 rfl w
theorem e_X12_ends {l : Launch} {D : Nat} {ζ : ZP} {h : HI} {Q : Int → HI → Prop} {x1 : Int} (hn : 144 ≤ ζ.2.2.2.2) (w : RtI l D mX12_isPack (zz ζ) [aP 97, aI x1] (hu h 97 0 0) (fun r1 h1 => (rg r1) ∧ (if ¬ r1 = 0 then (RtV l D mX12_settle (zz ζ) [aP 97] h1 (fun h2 => RtI l D mX12_endOf (zz ζ) [aP 97, aI x1] h2 (fun r3 h3 => Q r3 h3))) else (Q (-1) h1)))) : RtI l (D + 1) mX12_ends (zz ζ) [aP 97, aI x1] h Q := by
  refine RtI.of 0 pn_X12 [aP 97, aI x1] rfl rfl ?_
  refine g_aload_n dX12_ends_0 rfl ?_
  refine g_iconst dX12_ends_1 ?_
  refine g_putI (J := 0) dX12_ends_2 fl_X12_1 sh_97 (al_97 hn) rfl rfl ?_
  refine g_aload_n dX12_ends_5 rfl ?_
  refine g_iload_n dX12_ends_6 rfl ?_
  refine g_callVI (n := 1) (As := [aI x1]) (st := []) dX12_ends_7 ml_X12_478 sh_97 rfl (al_97 hn) rfl rfl (Nat.le_of_ble_eq_true rfl) (RtI.mono w (fun r1 h1 w => ?_))
  obtain ⟨o1, w⟩ := w
  refine g_if_ne (tgt := 15) dX12_ends_10 rfl o1 ?_
  refine ite_imp (fun w => ?_) (fun w => ?_) w
  · refine g_aload_n dX12_ends_15 rfl ?_
    refine g_callVV (n := 0) (As := []) (st := []) dX12_ends_16 ml_X12_324 sh_97 rfl (al_97 hn) rfl rfl (Nat.le_of_ble_eq_true rfl) (RtV.mono w (fun h2 w => ?_))
    refine g_aload_n dX12_ends_19 rfl ?_
    refine g_iload_n dX12_ends_20 rfl ?_
    refine g_callVI (n := 1) (As := [aI x1]) (st := []) dX12_ends_21 ml_X12_487 sh_97 rfl (al_97 hn) rfl rfl (Nat.le_of_ble_eq_true rfl) (RtI.mono w (fun r3 h3 w => ?_))
    exact g_retI dX12_ends_24 rfl w
  · refine g_iconst dX12_ends_13 ?_
    exact g_retI dX12_ends_14 rfl w
theorem b_X12_placeOf_2 {l : Launch} {D : Nat} {ζ : ZP} {h : HI} {Q : Int → HI → Prop} {x1 x2 x3 : Int} (hn : 144 ≤ ζ.2.2.2.2) (w : (0 ≤ ((1677 + (3 * x1)) + 2) ∧ ((1677 + (3 * x1)) + 2) < 2819) ∧ (rg x3) ∧ (rg (h 99 ((1677 + (3 * x1)) + 2))) ∧ (if (h 99 ((1677 + (3 * x1)) + 2)) ≤ x3 then (Q (-1) h) else ((0 ≤ ((2107 + (40 * x1)) + x3) ∧ ((2107 + (40 * x1)) + x3) < 2819) ∧ (rg (h 99 ((2107 + (40 * x1)) + x3))) ∧ (rg x2) ∧ (if ¬ (h 99 ((2107 + (40 * x1)) + x3)) = x2 then (G l (D + 1) 0 0 mX12_placeOf (zz ζ) 2 [aP 97, aI x1, aI x2, aI (x3 + 1)] [] h (qI (zz ζ) Q)) else (Q x3 h))))) : G l (D + 1) 0 0 mX12_placeOf (zz ζ) 2 [aP 97, aI x1, aI x2, aI x3] [] h (qI (zz ζ) Q) := by
  refine g_iload_n dX12_placeOf_2 rfl ?_
  refine g_aload_n dX12_placeOf_3 rfl ?_
  refine g_getR dX12_placeOf_4 fl_X12_33 sh_97 (al_97 hn) (fun _ _ _ => rfl) rf_97_6 ?_
  refine g_sipush dX12_placeOf_7 rfl ?_
  refine g_iconst dX12_placeOf_10 ?_
  refine g_iload_n dX12_placeOf_11 rfl ?_
  refine g_imul dX12_placeOf_12 ?_
  refine g_iadd dX12_placeOf_13 ?_
  refine g_iconst dX12_placeOf_14 ?_
  refine g_iadd dX12_placeOf_15 ?_
  obtain ⟨o1, w⟩ := w
  refine g_iald dX12_placeOf_16 sh_99 (al_99 hn) (Nat.le_of_ble_eq_true rfl) o1 ?_
  obtain ⟨o2, w⟩ := w
  obtain ⟨o3, w⟩ := w
  refine g_cmp_ge (tgt := 47) dX12_placeOf_17 rfl o2 o3 ?_
  refine ite_imp (fun w => ?_) (fun w => ?_) w
  · refine g_iconst dX12_placeOf_47 ?_
    exact g_retI dX12_placeOf_48 rfl w
  · refine g_aload_n dX12_placeOf_20 rfl ?_
    refine g_getR dX12_placeOf_21 fl_X12_33 sh_97 (al_97 hn) (fun _ _ _ => rfl) rf_97_6 ?_
    refine g_sipush dX12_placeOf_24 rfl ?_
    refine g_bipush dX12_placeOf_27 rfl ?_
    refine g_iload_n dX12_placeOf_29 rfl ?_
    refine g_imul dX12_placeOf_30 ?_
    refine g_iadd dX12_placeOf_31 ?_
    refine g_iload_n dX12_placeOf_32 rfl ?_
    refine g_iadd dX12_placeOf_33 ?_
    obtain ⟨o4, w⟩ := w
    refine g_iald dX12_placeOf_34 sh_99 (al_99 hn) (Nat.le_of_ble_eq_true rfl) o4 ?_
    refine g_iload_n dX12_placeOf_35 rfl ?_
    obtain ⟨o5, w⟩ := w
    obtain ⟨o6, w⟩ := w
    refine g_cmp_ne (tgt := 41) dX12_placeOf_36 rfl o5 o6 ?_
    refine ite_imp (fun w => ?_) (fun w => ?_) w
    · refine g_iinc (ls' := [aP 97, aI x1, aI x2, aI (x3 + 1)]) dX12_placeOf_41 rfl (Nat.le_of_ble_eq_true rfl) rfl rfl ?_
      refine g_goto (tgt := 2) dX12_placeOf_44 rfl ?_
      exact g_sub (ls' := [aP 97, aI x1, aI x2, aI (x3 + 1)]) ⟨Or.inr rfl, Or.inr rfl, Or.inr rfl, Or.inr rfl, trivial⟩ w
    · refine g_iload_n dX12_placeOf_39 rfl ?_
      exact g_retI dX12_placeOf_40 rfl w
theorem e_X12_placeOf {l : Launch} {D : Nat} {ζ : ZP} {h : HI} {Q : Int → HI → Prop} {x1 x2 : Int} (hn : 144 ≤ ζ.2.2.2.2) (w : G l (D + 1) 0 0 mX12_placeOf (zz ζ) 2 [aP 97, aI x1, aI x2, aI 0] [] h (qI (zz ζ) Q)) : RtI l (D + 1) mX12_placeOf (zz ζ) [aP 97, aI x1, aI x2] h Q := by
  refine RtI.of 1 pn_X12 [aP 97, aI x1, aI x2, aU] rfl rfl ?_
  refine g_iconst dX12_placeOf_0 ?_
  refine g_istore_n (ls' := [aP 97, aI x1, aI x2, aI 0]) dX12_placeOf_1 (Nat.le_of_ble_eq_true rfl) rfl rfl ?_
  exact g_sub (ls' := [aP 97, aI x1, aI x2, aI 0]) ⟨Or.inr rfl, Or.inr rfl, Or.inr rfl, Or.inr rfl, trivial⟩ w
theorem b_X12_lastDay_15 {l : Launch} {D : Nat} {ζ : ZP} {h : HI} {Q : Int → HI → Prop} {x1 x2 x3 : Int} (hn : 144 ≤ ζ.2.2.2.2) (w : (rg x3) ∧ (rg (h 99 15)) ∧ (if (h 99 15) ≤ x3 then (Q x2 h) else ((0 ≤ (2507 + (4 * x3)) ∧ (2507 + (4 * x3)) < 2819) ∧ (rg (h 99 (2507 + (4 * x3)))) ∧ (rg x1) ∧ (if ¬ (h 99 (2507 + (4 * x3))) = x1 then (G l (D + 1) 0 0 mX12_lastDay (zz ζ) 15 [aP 97, aI x1, aI x2, aI (x3 + 1)] [] h (qI (zz ζ) Q)) else ((0 ≤ ((2507 + (4 * x3)) + 3) ∧ ((2507 + (4 * x3)) + 3) < 2819) ∧ G l (D + 1) 0 0 mX12_lastDay (zz ζ) 15 [aP 97, aI x1, aI (h 99 ((2507 + (4 * x3)) + 3)), aI (x3 + 1)] [] h (qI (zz ζ) Q)))))) : G l (D + 1) 0 0 mX12_lastDay (zz ζ) 15 [aP 97, aI x1, aI x2, aI x3] [] h (qI (zz ζ) Q) := by
  refine g_iload_n dX12_lastDay_15 rfl ?_
  refine g_aload_n dX12_lastDay_16 rfl ?_
  refine g_getR dX12_lastDay_17 fl_X12_33 sh_97 (al_97 hn) (fun _ _ _ => rfl) rf_97_6 ?_
  refine g_bipush dX12_lastDay_20 rfl ?_
  refine g_iald dX12_lastDay_22 sh_99 (al_99 hn) (Nat.le_of_ble_eq_true rfl) (by decide) ?_
  obtain ⟨o1, w⟩ := w
  obtain ⟨o2, w⟩ := w
  refine g_cmp_ge (tgt := 67) dX12_lastDay_23 rfl o1 o2 ?_
  refine ite_imp (fun w => ?_) (fun w => ?_) w
  · refine g_iload_n dX12_lastDay_67 rfl ?_
    exact g_retI dX12_lastDay_68 rfl w
  · refine g_aload_n dX12_lastDay_26 rfl ?_
    refine g_getR dX12_lastDay_27 fl_X12_33 sh_97 (al_97 hn) (fun _ _ _ => rfl) rf_97_6 ?_
    refine g_sipush dX12_lastDay_30 rfl ?_
    refine g_iconst dX12_lastDay_33 ?_
    refine g_iload_n dX12_lastDay_34 rfl ?_
    refine g_imul dX12_lastDay_35 ?_
    refine g_iadd dX12_lastDay_36 ?_
    obtain ⟨o3, w⟩ := w
    refine g_iald dX12_lastDay_37 sh_99 (al_99 hn) (Nat.le_of_ble_eq_true rfl) o3 ?_
    refine g_iload_n dX12_lastDay_38 rfl ?_
    obtain ⟨o4, w⟩ := w
    obtain ⟨o5, w⟩ := w
    refine g_cmp_ne (tgt := 59) dX12_lastDay_39 rfl o4 o5 ?_
    refine ite_imp (fun w => ?_) (fun w => ?_) w
    · refine g_iload_n dX12_lastDay_59 rfl ?_
      refine g_istore_n (ls' := [aP 97, aI x1, aI x2, aI x3]) dX12_lastDay_60 (Nat.le_of_ble_eq_true rfl) rfl rfl ?_
      refine g_iinc (ls' := [aP 97, aI x1, aI x2, aI (x3 + 1)]) dX12_lastDay_61 rfl (Nat.le_of_ble_eq_true rfl) rfl rfl ?_
      refine g_goto (tgt := 15) dX12_lastDay_64 rfl ?_
      exact g_sub (ls' := [aP 97, aI x1, aI x2, aI (x3 + 1)]) ⟨Or.inr rfl, Or.inr rfl, Or.inr rfl, Or.inr rfl, trivial⟩ w
    · refine g_aload_n dX12_lastDay_42 rfl ?_
      refine g_getR dX12_lastDay_43 fl_X12_33 sh_97 (al_97 hn) (fun _ _ _ => rfl) rf_97_6 ?_
      refine g_sipush dX12_lastDay_46 rfl ?_
      refine g_iconst dX12_lastDay_49 ?_
      refine g_iload_n dX12_lastDay_50 rfl ?_
      refine g_imul dX12_lastDay_51 ?_
      refine g_iadd dX12_lastDay_52 ?_
      refine g_iconst dX12_lastDay_53 ?_
      refine g_iadd dX12_lastDay_54 ?_
      obtain ⟨o6, w⟩ := w
      refine g_iald dX12_lastDay_55 sh_99 (al_99 hn) (Nat.le_of_ble_eq_true rfl) o6 ?_
      refine g_goto (tgt := 60) dX12_lastDay_56 rfl ?_
      refine g_istore_n (ls' := [aP 97, aI x1, aI (h 99 ((2507 + (4 * x3)) + 3)), aI x3]) dX12_lastDay_60 (Nat.le_of_ble_eq_true rfl) rfl rfl ?_
      refine g_iinc (ls' := [aP 97, aI x1, aI (h 99 ((2507 + (4 * x3)) + 3)), aI (x3 + 1)]) dX12_lastDay_61 rfl (Nat.le_of_ble_eq_true rfl) rfl rfl ?_
      refine g_goto (tgt := 15) dX12_lastDay_64 rfl ?_
      exact g_sub (ls' := [aP 97, aI x1, aI (h 99 ((2507 + (4 * x3)) + 3)), aI (x3 + 1)]) ⟨Or.inr rfl, Or.inr rfl, Or.inr rfl, Or.inr rfl, trivial⟩ w
theorem e_X12_lastDay {l : Launch} {D : Nat} {ζ : ZP} {h : HI} {Q : Int → HI → Prop} {x1 : Int} (hn : 144 ≤ ζ.2.2.2.2) (w : (0 ≤ (1677 + (3 * x1)) ∧ (1677 + (3 * x1)) < 2819) ∧ G l (D + 1) 0 0 mX12_lastDay (zz ζ) 15 [aP 97, aI x1, aI (h 99 (1677 + (3 * x1))), aI 0] [] h (qI (zz ζ) Q)) : RtI l (D + 1) mX12_lastDay (zz ζ) [aP 97, aI x1] h Q := by
  refine RtI.of 2 pn_X12 [aP 97, aI x1, aU, aU] rfl rfl ?_
  refine g_aload_n dX12_lastDay_0 rfl ?_
  refine g_getR dX12_lastDay_1 fl_X12_33 sh_97 (al_97 hn) (fun _ _ _ => rfl) rf_97_6 ?_
  refine g_sipush dX12_lastDay_4 rfl ?_
  refine g_iconst dX12_lastDay_7 ?_
  refine g_iload_n dX12_lastDay_8 rfl ?_
  refine g_imul dX12_lastDay_9 ?_
  refine g_iadd dX12_lastDay_10 ?_
  obtain ⟨o1, w⟩ := w
  refine g_iald dX12_lastDay_11 sh_99 (al_99 hn) (Nat.le_of_ble_eq_true rfl) o1 ?_
  refine g_istore_n (ls' := [aP 97, aI x1, aI (h 99 (1677 + (3 * x1))), aU]) dX12_lastDay_12 (Nat.le_of_ble_eq_true rfl) rfl rfl ?_
  refine g_iconst dX12_lastDay_13 ?_
  refine g_istore_n (ls' := [aP 97, aI x1, aI (h 99 (1677 + (3 * x1))), aI 0]) dX12_lastDay_14 (Nat.le_of_ble_eq_true rfl) rfl rfl ?_
  exact g_sub (ls' := [aP 97, aI x1, aI (h 99 (1677 + (3 * x1))), aI 0]) ⟨Or.inr rfl, Or.inr rfl, Or.inr rfl, Or.inr rfl, trivial⟩ w
theorem e_X12_mend {l : Launch} {D : Nat} {ζ : ZP} {h : HI} {Q : Int → HI → Prop} {x1 x2 x3 x4 : Int} (hn : 144 ≤ ζ.2.2.2.2) (w : (rg (h 99 15)) ∧ (if (h 99 15) = 30 then (Q 0 (hu h 97 0 0)) else (RtI l D mX12_isPack (zz ζ) [aP 97, aI x1] (hu h 97 0 0) (fun r1 h1 => (rg r1) ∧ (if r1 = 0 then (Q 0 h1) else (RtI l D mX12_isCell (zz ζ) [aP 97, aI x3] h1 (fun r2 h2 => (rg r2) ∧ (if r2 = 0 then (Q 0 h2) else (RtI l D mX12_placeOf (zz ζ) [aP 97, aI x1, aI x2] h2 (fun r3 h3 => (rg r3) ∧ (if r3 < 0 then (Q 0 h3) else (RtI l D mX12_lastDay (zz ζ) [aP 97, aI x1] h3 (fun r4 h4 => RtI l D mX12_isIn (zz ζ) [aI x4, aI r4, aI 999] h4 (fun r5 h5 => (rg r5) ∧ (if ¬ r5 = 0 then (RtV l D mX12_settle (zz ζ) [aP 97] h5 (fun h6 => (0 ≤ x3 ∧ x3 < 60) ∧ (rg (h6 109 x3)) ∧ (if (h6 109 x3) = 0 then (Q 0 h6) else (RtI l D mX12_packOf (zz ζ) [aP 97, aI x3] h6 (fun r7 h7 => (rg r7) ∧ (if r7 < 0 then ((0 ≤ (2507 + (4 * (h7 99 15))) ∧ (2507 + (4 * (h7 99 15))) < 2819) ∧ RtI l D mX12_placeOf (zz ζ) [aP 97, aI x1, aI x2] (hu h7 99 (2507 + (4 * (h7 99 15))) x1) (fun r8 h8 => (0 ≤ ((2507 + (4 * (h7 99 15))) + 1) ∧ ((2507 + (4 * (h7 99 15))) + 1) < 2819) ∧ (0 ≤ ((2507 + (4 * (h7 99 15))) + 2) ∧ ((2507 + (4 * (h7 99 15))) + 2) < 2819) ∧ (0 ≤ ((2507 + (4 * (h7 99 15))) + 3) ∧ ((2507 + (4 * (h7 99 15))) + 3) < 2819) ∧ RtI l D mX12_placeOf (zz ζ) [aP 97, aI x1, aI x2] (hu (hu (hu h8 99 ((2507 + (4 * (h7 99 15))) + 1) r8) 99 ((2507 + (4 * (h7 99 15))) + 2) x3) 99 ((2507 + (4 * (h7 99 15))) + 3) x4) (fun r9 h9 => (0 ≤ ((2107 + (40 * x1)) + r9) ∧ ((2107 + (40 * x1)) + r9) < 2819) ∧ Q 1 (hu (hu h9 99 ((2107 + (40 * x1)) + r9) x3) 99 15 (((hu h9 99 ((2107 + (40 * x1)) + r9) x3) 99 15) + 1))))) else (Q 0 h7))))))) else (Q 0 h5)))))))))))))))) : RtI l (D + 1) mX12_mend (zz ζ) [aP 97, aI x1, aI x2, aI x3, aI x4] h Q := by
  refine RtI.of 1 pn_X12 [aP 97, aI x1, aI x2, aI x3, aI x4, aU] rfl rfl ?_
  refine g_aload_n dX12_mend_0 rfl ?_
  refine g_iconst dX12_mend_1 ?_
  refine g_putI (J := 0) dX12_mend_2 fl_X12_1 sh_97 (al_97 hn) rfl rfl ?_
  refine g_aload_n dX12_mend_5 rfl ?_
  refine g_getR dX12_mend_6 fl_X12_33 sh_97 (al_97 hn) (fun _ _ _ => rfl) rf_97_6 ?_
  refine g_bipush dX12_mend_9 rfl ?_
  refine g_iald dX12_mend_11 sh_99 (al_99 hn) (Nat.le_of_ble_eq_true rfl) (by decide) ?_
  refine g_bipush dX12_mend_12 rfl ?_
  obtain ⟨o1, w⟩ := w
  refine g_cmp_eq (tgt := 58) dX12_mend_14 rfl o1 (by decide) ?_
  refine ite_imp (fun w => ?_) (fun w => ?_) w
  · refine g_iconst dX12_mend_58 ?_
    exact g_retZ dX12_mend_59 rfl (Or.inl rfl) w
  · refine g_aload_n dX12_mend_17 rfl ?_
    refine g_iload_n dX12_mend_18 rfl ?_
    refine g_callVI (n := 1) (As := [aI x1]) (st := []) dX12_mend_19 ml_X12_478 sh_97 rfl (al_97 hn) rfl rfl (Nat.le_of_ble_eq_true rfl) (RtI.mono w (fun r1 h1 w => ?_))
    obtain ⟨o2, w⟩ := w
    refine g_if_eq (tgt := 58) dX12_mend_22 rfl o2 ?_
    refine ite_imp (fun w => ?_) (fun w => ?_) w
    · refine g_iconst dX12_mend_58 ?_
      exact g_retZ dX12_mend_59 rfl (Or.inl rfl) w
    · refine g_aload_n dX12_mend_25 rfl ?_
      refine g_iload_n dX12_mend_26 rfl ?_
      refine g_callVI (n := 1) (As := [aI x3]) (st := []) dX12_mend_27 ml_X12_304 sh_97 rfl (al_97 hn) rfl rfl (Nat.le_of_ble_eq_true rfl) (RtI.mono w (fun r2 h2 w => ?_))
      obtain ⟨o3, w⟩ := w
      refine g_if_eq (tgt := 58) dX12_mend_30 rfl o3 ?_
      refine ite_imp (fun w => ?_) (fun w => ?_) w
      · refine g_iconst dX12_mend_58 ?_
        exact g_retZ dX12_mend_59 rfl (Or.inl rfl) w
      · refine g_aload_n dX12_mend_33 rfl ?_
        refine g_iload_n dX12_mend_34 rfl ?_
        refine g_iload_n dX12_mend_35 rfl ?_
        refine g_callVI (n := 2) (As := [aI x1, aI x2]) (st := []) dX12_mend_36 ml_X12_490 sh_97 rfl (al_97 hn) rfl rfl (Nat.le_of_ble_eq_true rfl) (RtI.mono w (fun r3 h3 w => ?_))
        obtain ⟨o4, w⟩ := w
        refine g_if_lt (tgt := 58) dX12_mend_39 rfl o4 ?_
        refine ite_imp (fun w => ?_) (fun w => ?_) w
        · refine g_iconst dX12_mend_58 ?_
          exact g_retZ dX12_mend_59 rfl (Or.inl rfl) w
        · refine g_iload dX12_mend_42 rfl ?_
          refine g_aload_n dX12_mend_44 rfl ?_
          refine g_iload_n dX12_mend_45 rfl ?_
          refine g_callVI (n := 1) (As := [aI x1]) (st := [aI x4]) dX12_mend_46 ml_X12_493 sh_97 rfl (al_97 hn) rfl rfl (Nat.le_of_ble_eq_true rfl) (RtI.mono w (fun r4 h4 w => ?_))
          refine g_sipush dX12_mend_49 rfl ?_
          refine g_callSI (n := 3) (As := [aI x4, aI r4, aI 999]) (st := []) dX12_mend_52 ml_X12_262 rfl rfl (Nat.le_of_ble_eq_true rfl) rfl (RtI.mono w (fun r5 h5 w => ?_))
          obtain ⟨o5, w⟩ := w
          refine g_if_ne (tgt := 60) dX12_mend_55 rfl o5 ?_
          refine ite_imp (fun w => ?_) (fun w => ?_) w
          · refine g_aload_n dX12_mend_60 rfl ?_
            refine g_callVV (n := 0) (As := []) (st := []) dX12_mend_61 ml_X12_324 sh_97 rfl (al_97 hn) rfl rfl (Nat.le_of_ble_eq_true rfl) (RtV.mono w (fun h6 w => ?_))
            refine g_aload_n dX12_mend_64 rfl ?_
            refine g_getR dX12_mend_65 fl_X12_66 sh_97 (al_97 hn) (fun _ _ _ => rfl) rf_97_26 ?_
            refine g_iload_n dX12_mend_68 rfl ?_
            obtain ⟨o6, w⟩ := w
            refine g_iald dX12_mend_69 sh_109 (al_109 hn) (Nat.le_of_ble_eq_true rfl) o6 ?_
            obtain ⟨o7, w⟩ := w
            refine g_if_eq (tgt := 81) dX12_mend_70 rfl o7 ?_
            refine ite_imp (fun w => ?_) (fun w => ?_) w
            · refine g_iconst dX12_mend_81 ?_
              exact g_retZ dX12_mend_82 rfl (Or.inl rfl) w
            · refine g_aload_n dX12_mend_73 rfl ?_
              refine g_iload_n dX12_mend_74 rfl ?_
              refine g_callVI (n := 1) (As := [aI x3]) (st := []) dX12_mend_75 ml_X12_332 sh_97 rfl (al_97 hn) rfl rfl (Nat.le_of_ble_eq_true rfl) (RtI.mono w (fun r7 h7 w => ?_))
              obtain ⟨o8, w⟩ := w
              refine g_if_lt (tgt := 83) dX12_mend_78 rfl o8 ?_
              refine ite_imp (fun w => ?_) (fun w => ?_) w
              · refine g_sipush dX12_mend_83 rfl ?_
                refine g_iconst dX12_mend_86 ?_
                refine g_aload_n dX12_mend_87 rfl ?_
                refine g_getR dX12_mend_88 fl_X12_33 sh_97 (al_97 hn) (fun _ _ _ => rfl) rf_97_6 ?_
                refine g_bipush dX12_mend_91 rfl ?_
                refine g_iald dX12_mend_93 sh_99 (al_99 hn) (Nat.le_of_ble_eq_true rfl) (by decide) ?_
                refine g_imul dX12_mend_94 ?_
                refine g_iadd dX12_mend_95 ?_
                refine g_istore (ls' := [aP 97, aI x1, aI x2, aI x3, aI x4, aI (2507 + (4 * (h7 99 15)))]) dX12_mend_96 (Nat.le_of_ble_eq_true rfl) rfl rfl ?_
                refine g_aload_n dX12_mend_98 rfl ?_
                refine g_getR dX12_mend_99 fl_X12_33 sh_97 (al_97 hn) (fun _ _ _ => rfl) rf_97_6 ?_
                refine g_iload dX12_mend_102 rfl ?_
                refine g_iload_n dX12_mend_104 rfl ?_
                obtain ⟨o9, w⟩ := w
                refine g_iast dX12_mend_105 sh_99 (al_99 hn) (Nat.le_of_ble_eq_true rfl) o9 ?_
                refine g_aload_n dX12_mend_106 rfl ?_
                refine g_getR dX12_mend_107 fl_X12_33 sh_97 (al_97 hn) (fun _ _ _ => rfl) rf_97_6 ?_
                refine g_iload dX12_mend_110 rfl ?_
                refine g_iconst dX12_mend_112 ?_
                refine g_iadd dX12_mend_113 ?_
                refine g_aload_n dX12_mend_114 rfl ?_
                refine g_iload_n dX12_mend_115 rfl ?_
                refine g_iload_n dX12_mend_116 rfl ?_
                refine g_callVI (n := 2) (As := [aI x1, aI x2]) (st := [aI ((2507 + (4 * (h7 99 15))) + 1), aP 99]) dX12_mend_117 ml_X12_490 sh_97 rfl (al_97 hn) rfl rfl (Nat.le_of_ble_eq_true rfl) (RtI.mono w (fun r8 h8 w => ?_))
                obtain ⟨o10, w⟩ := w
                refine g_iast dX12_mend_120 sh_99 (al_99 hn) (Nat.le_of_ble_eq_true rfl) o10 ?_
                refine g_aload_n dX12_mend_121 rfl ?_
                refine g_getR dX12_mend_122 fl_X12_33 sh_97 (al_97 hn) (fun _ _ _ => rfl) rf_97_6 ?_
                refine g_iload dX12_mend_125 rfl ?_
                refine g_iconst dX12_mend_127 ?_
                refine g_iadd dX12_mend_128 ?_
                refine g_iload_n dX12_mend_129 rfl ?_
                obtain ⟨o11, w⟩ := w
                refine g_iast dX12_mend_130 sh_99 (al_99 hn) (Nat.le_of_ble_eq_true rfl) o11 ?_
                refine g_aload_n dX12_mend_131 rfl ?_
                refine g_getR dX12_mend_132 fl_X12_33 sh_97 (al_97 hn) (fun _ _ _ => rfl) rf_97_6 ?_
                refine g_iload dX12_mend_135 rfl ?_
                refine g_iconst dX12_mend_137 ?_
                refine g_iadd dX12_mend_138 ?_
                refine g_iload dX12_mend_139 rfl ?_
                obtain ⟨o12, w⟩ := w
                refine g_iast dX12_mend_141 sh_99 (al_99 hn) (Nat.le_of_ble_eq_true rfl) o12 ?_
                refine g_aload_n dX12_mend_142 rfl ?_
                refine g_getR dX12_mend_143 fl_X12_33 sh_97 (al_97 hn) (fun _ _ _ => rfl) rf_97_6 ?_
                refine g_sipush dX12_mend_146 rfl ?_
                refine g_bipush dX12_mend_149 rfl ?_
                refine g_iload_n dX12_mend_151 rfl ?_
                refine g_imul dX12_mend_152 ?_
                refine g_iadd dX12_mend_153 ?_
                refine g_aload_n dX12_mend_154 rfl ?_
                refine g_iload_n dX12_mend_155 rfl ?_
                refine g_iload_n dX12_mend_156 rfl ?_
                refine g_callVI (n := 2) (As := [aI x1, aI x2]) (st := [aI (2107 + (40 * x1)), aP 99]) dX12_mend_157 ml_X12_490 sh_97 rfl (al_97 hn) rfl rfl (Nat.le_of_ble_eq_true rfl) (RtI.mono w (fun r9 h9 w => ?_))
                refine g_iadd dX12_mend_160 ?_
                refine g_iload_n dX12_mend_161 rfl ?_
                obtain ⟨o13, w⟩ := w
                refine g_iast dX12_mend_162 sh_99 (al_99 hn) (Nat.le_of_ble_eq_true rfl) o13 ?_
                refine g_aload_n dX12_mend_163 rfl ?_
                refine g_getR dX12_mend_164 fl_X12_33 sh_97 (al_97 hn) (fun _ _ _ => rfl) rf_97_6 ?_
                refine g_bipush dX12_mend_167 rfl ?_
                refine g_dup2 dX12_mend_169 rfl rfl ?_
                refine g_iald dX12_mend_170 sh_99 (al_99 hn) (Nat.le_of_ble_eq_true rfl) (by decide) ?_
                refine g_iconst dX12_mend_171 ?_
                refine g_iadd dX12_mend_172 ?_
                refine g_iast dX12_mend_173 sh_99 (al_99 hn) (Nat.le_of_ble_eq_true rfl) (by decide) ?_
                refine g_iconst dX12_mend_174 ?_
                exact g_retZ dX12_mend_175 rfl (Or.inr rfl) w
              · refine g_iconst dX12_mend_81 ?_
                exact g_retZ dX12_mend_82 rfl (Or.inl rfl) w
          · refine g_iconst dX12_mend_58 ?_
            exact g_retZ dX12_mend_59 rfl (Or.inl rfl) w
theorem b_X12_bestMend_34 {l : Launch} {D : Nat} {ζ : ZP} {h : HI} {Q : Int → HI → Prop} {x1 x2 : Int} (hn : 144 ≤ ζ.2.2.2.2) (w : (rg x2) ∧ (rg (h 97 43)) ∧ (if (h 97 43) ≤ x2 then (G l (D + 1) 0 0 mX12_bestMend (zz ζ) 67 [aP 97, aI x1, aI (-1), aI 0, aU, aU, aU] [] h (qI (zz ζ) Q)) else ((0 ≤ x2 ∧ x2 < 60) ∧ RtI l D mX12_packOf (zz ζ) [aP 97, aI (h 114 x2)] h (fun r1 h1 => (rg r1) ∧ (if r1 < 0 then (G l (D + 1) 0 0 mX12_bestMend (zz ζ) 34 [aP 97, aI x1, aI (x2 + 1), aU, aU, aU, aU] [] h1 (qI (zz ζ) Q)) else (Q (-1) h1)))))) : G l (D + 1) 0 0 mX12_bestMend (zz ζ) 34 [aP 97, aI x1, aI x2, aU, aU, aU, aU] [] h (qI (zz ζ) Q) := by
  refine g_iload_n dX12_bestMend_34 rfl ?_
  refine g_aload_n dX12_bestMend_35 rfl ?_
  refine g_getI (J := 43) dX12_bestMend_36 fl_X12_397 sh_97 (al_97 hn) (fun _ _ _ => rfl) rfl ?_
  obtain ⟨o1, w⟩ := w
  obtain ⟨o2, w⟩ := w
  refine g_cmp_ge (tgt := 63) dX12_bestMend_39 rfl o1 o2 ?_
  refine ite_imp (fun w => ?_) (fun w => ?_) w
  · refine g_iconst dX12_bestMend_63 ?_
    refine g_istore_n (ls' := [aP 97, aI x1, aI (-1), aU, aU, aU, aU]) dX12_bestMend_64 (Nat.le_of_ble_eq_true rfl) rfl rfl ?_
    refine g_iconst dX12_bestMend_65 ?_
    refine g_istore_n (ls' := [aP 97, aI x1, aI (-1), aI 0, aU, aU, aU]) dX12_bestMend_66 (Nat.le_of_ble_eq_true rfl) rfl rfl ?_
    exact g_sub (ls' := [aP 97, aI x1, aI (-1), aI 0, aU, aU, aU]) ⟨Or.inr rfl, Or.inr rfl, Or.inr rfl, Or.inr rfl, Or.inl rfl, Or.inl rfl, Or.inl rfl, trivial⟩ w
  · refine g_aload_n dX12_bestMend_42 rfl ?_
    refine g_aload_n dX12_bestMend_43 rfl ?_
    refine g_getR dX12_bestMend_44 fl_X12_81 sh_97 (al_97 hn) (fun _ _ _ => rfl) rf_97_36 ?_
    refine g_iload_n dX12_bestMend_47 rfl ?_
    obtain ⟨o3, w⟩ := w
    refine g_iald dX12_bestMend_48 sh_114 (al_114 hn) (Nat.le_of_ble_eq_true rfl) o3 ?_
    refine g_callVI (n := 1) (As := [aI (h 114 x2)]) (st := []) dX12_bestMend_49 ml_X12_332 sh_97 rfl (al_97 hn) rfl rfl (Nat.le_of_ble_eq_true rfl) (RtI.mono w (fun r1 h1 w => ?_))
    obtain ⟨o4, w⟩ := w
    refine g_if_lt (tgt := 57) dX12_bestMend_52 rfl o4 ?_
    refine ite_imp (fun w => ?_) (fun w => ?_) w
    · refine g_iinc (ls' := [aP 97, aI x1, aI (x2 + 1), aU, aU, aU, aU]) dX12_bestMend_57 rfl (Nat.le_of_ble_eq_true rfl) rfl rfl ?_
      refine g_goto (tgt := 34) dX12_bestMend_60 rfl ?_
      exact g_sub (ls' := [aP 97, aI x1, aI (x2 + 1), aU, aU, aU, aU]) ⟨Or.inr rfl, Or.inr rfl, Or.inr rfl, Or.inl rfl, Or.inl rfl, Or.inl rfl, Or.inl rfl, trivial⟩ w
    · refine g_iconst dX12_bestMend_55 ?_
      exact g_retI dX12_bestMend_56 rfl w
theorem b_X12_bestMend_67 {l : Launch} {D : Nat} {ζ : ZP} {h : HI} {Q : Int → HI → Prop} {x1 x2 x3 : Int} (hn : 144 ≤ ζ.2.2.2.2) (w : (0 ≤ ((1677 + (3 * x1)) + 2) ∧ ((1677 + (3 * x1)) + 2) < 2819) ∧ (rg x3) ∧ (rg (h 99 ((1677 + (3 * x1)) + 2))) ∧ (if (h 99 ((1677 + (3 * x1)) + 2)) ≤ x3 then (Q x2 (hu h 97 59 1)) else ((0 ≤ ((2107 + (40 * x1)) + x3) ∧ ((2107 + (40 * x1)) + x3) < 2819) ∧ G l (D + 1) 0 0 mX12_bestMend (zz ζ) 105 [aP 97, aI x1, aI x2, aI x3, aI (h 99 ((2107 + (40 * x1)) + x3)), aI 0, aU] [] h (qI (zz ζ) Q)))) : G l (D + 1) 0 0 mX12_bestMend (zz ζ) 67 [aP 97, aI x1, aI x2, aI x3, aU, aU, aU] [] h (qI (zz ζ) Q) := by
  refine g_iload_n dX12_bestMend_67 rfl ?_
  refine g_aload_n dX12_bestMend_68 rfl ?_
  refine g_getR dX12_bestMend_69 fl_X12_33 sh_97 (al_97 hn) (fun _ _ _ => rfl) rf_97_6 ?_
  refine g_sipush dX12_bestMend_72 rfl ?_
  refine g_iconst dX12_bestMend_75 ?_
  refine g_iload_n dX12_bestMend_76 rfl ?_
  refine g_imul dX12_bestMend_77 ?_
  refine g_iadd dX12_bestMend_78 ?_
  refine g_iconst dX12_bestMend_79 ?_
  refine g_iadd dX12_bestMend_80 ?_
  obtain ⟨o1, w⟩ := w
  refine g_iald dX12_bestMend_81 sh_99 (al_99 hn) (Nat.le_of_ble_eq_true rfl) o1 ?_
  obtain ⟨o2, w⟩ := w
  obtain ⟨o3, w⟩ := w
  refine g_cmp_ge (tgt := 206) dX12_bestMend_82 rfl o2 o3 ?_
  refine ite_imp (fun w => ?_) (fun w => ?_) w
  · refine g_aload_n dX12_bestMend_206 rfl ?_
    refine g_iconst dX12_bestMend_207 ?_
    refine g_putZ (J := 59) dX12_bestMend_208 fl_X12_502 sh_97 (al_97 hn) rfl rfl (Or.inr rfl) ?_
    refine g_iload_n dX12_bestMend_211 rfl ?_
    exact g_retI dX12_bestMend_212 rfl w
  · refine g_aload_n dX12_bestMend_85 rfl ?_
    refine g_getR dX12_bestMend_86 fl_X12_33 sh_97 (al_97 hn) (fun _ _ _ => rfl) rf_97_6 ?_
    refine g_sipush dX12_bestMend_89 rfl ?_
    refine g_bipush dX12_bestMend_92 rfl ?_
    refine g_iload_n dX12_bestMend_94 rfl ?_
    refine g_imul dX12_bestMend_95 ?_
    refine g_iadd dX12_bestMend_96 ?_
    refine g_iload_n dX12_bestMend_97 rfl ?_
    refine g_iadd dX12_bestMend_98 ?_
    obtain ⟨o4, w⟩ := w
    refine g_iald dX12_bestMend_99 sh_99 (al_99 hn) (Nat.le_of_ble_eq_true rfl) o4 ?_
    refine g_istore (ls' := [aP 97, aI x1, aI x2, aI x3, aI (h 99 ((2107 + (40 * x1)) + x3)), aU, aU]) dX12_bestMend_100 (Nat.le_of_ble_eq_true rfl) rfl rfl ?_
    refine g_iconst dX12_bestMend_102 ?_
    refine g_istore (ls' := [aP 97, aI x1, aI x2, aI x3, aI (h 99 ((2107 + (40 * x1)) + x3)), aI 0, aU]) dX12_bestMend_103 (Nat.le_of_ble_eq_true rfl) rfl rfl ?_
    exact g_sub (ls' := [aP 97, aI x1, aI x2, aI x3, aI (h 99 ((2107 + (40 * x1)) + x3)), aI 0, aU]) ⟨Or.inr rfl, Or.inr rfl, Or.inr rfl, Or.inr rfl, Or.inr rfl, Or.inr rfl, Or.inl rfl, trivial⟩ w
theorem b_X12_bestMend_105 {l : Launch} {D : Nat} {ζ : ZP} {h : HI} {Q : Int → HI → Prop} {x1 x2 x3 x4 x5 : Int} (hn : 144 ≤ ζ.2.2.2.2) (w : (rg x5) ∧ (rg (h 97 43)) ∧ (if (h 97 43) ≤ x5 then ((0 ≤ ((2107 + (40 * x1)) + x3) ∧ ((2107 + (40 * x1)) + x3) < 2819) ∧ G l (D + 1) 0 0 mX12_bestMend (zz ζ) 67 [aP 97, aI x1, aI x2, aI (x3 + 1), aU, aU, aU] [] (hu h 99 ((2107 + (40 * x1)) + x3) x4) (qI (zz ζ) Q)) else ((0 ≤ x5 ∧ x5 < 60) ∧ (0 ≤ ((2107 + (40 * x1)) + x3) ∧ ((2107 + (40 * x1)) + x3) < 2819) ∧ RtI l D mX12_endOf (zz ζ) [aP 97, aI x1] (hu h 99 ((2107 + (40 * x1)) + x3) (h 114 x5)) (fun r1 h1 => RtI l D mX12_cyclesOf (zz ζ) [aP 97, aI x1, aI r1] h1 (fun r2 h2 => (rg r2) ∧ (rg x2) ∧ (if x2 < r2 then (G l (D + 1) 0 0 mX12_bestMend (zz ζ) 105 [aP 97, aI x1, aI r2, aI x3, aI x4, aI (x5 + 1), aU] [] (hu (hu h2 97 60 x4) 97 61 (h2 114 x5)) (qI (zz ζ) Q)) else (G l (D + 1) 0 0 mX12_bestMend (zz ζ) 105 [aP 97, aI x1, aI x2, aI x3, aI x4, aI (x5 + 1), aU] [] h2 (qI (zz ζ) Q)))))))) : G l (D + 1) 0 0 mX12_bestMend (zz ζ) 105 [aP 97, aI x1, aI x2, aI x3, aI x4, aI x5, aU] [] h (qI (zz ζ) Q) := by
  refine g_iload dX12_bestMend_105 rfl ?_
  refine g_aload_n dX12_bestMend_107 rfl ?_
  refine g_getI (J := 43) dX12_bestMend_108 fl_X12_397 sh_97 (al_97 hn) (fun _ _ _ => rfl) rfl ?_
  obtain ⟨o1, w⟩ := w
  obtain ⟨o2, w⟩ := w
  refine g_cmp_ge (tgt := 183) dX12_bestMend_111 rfl o1 o2 ?_
  refine ite_imp (fun w => ?_) (fun w => ?_) w
  · refine g_aload_n dX12_bestMend_183 rfl ?_
    refine g_getR dX12_bestMend_184 fl_X12_33 sh_97 (al_97 hn) (fun _ _ _ => rfl) rf_97_6 ?_
    refine g_sipush dX12_bestMend_187 rfl ?_
    refine g_bipush dX12_bestMend_190 rfl ?_
    refine g_iload_n dX12_bestMend_192 rfl ?_
    refine g_imul dX12_bestMend_193 ?_
    refine g_iadd dX12_bestMend_194 ?_
    refine g_iload_n dX12_bestMend_195 rfl ?_
    refine g_iadd dX12_bestMend_196 ?_
    refine g_iload dX12_bestMend_197 rfl ?_
    obtain ⟨o3, w⟩ := w
    refine g_iast dX12_bestMend_199 sh_99 (al_99 hn) (Nat.le_of_ble_eq_true rfl) o3 ?_
    refine g_iinc (ls' := [aP 97, aI x1, aI x2, aI (x3 + 1), aI x4, aI x5, aU]) dX12_bestMend_200 rfl (Nat.le_of_ble_eq_true rfl) rfl rfl ?_
    refine g_goto (tgt := 67) dX12_bestMend_203 rfl ?_
    exact g_sub (ls' := [aP 97, aI x1, aI x2, aI (x3 + 1), aU, aU, aU]) ⟨Or.inr rfl, Or.inr rfl, Or.inr rfl, Or.inr rfl, Or.inl rfl, Or.inl rfl, Or.inl rfl, trivial⟩ w
  · refine g_aload_n dX12_bestMend_114 rfl ?_
    refine g_getR dX12_bestMend_115 fl_X12_33 sh_97 (al_97 hn) (fun _ _ _ => rfl) rf_97_6 ?_
    refine g_sipush dX12_bestMend_118 rfl ?_
    refine g_bipush dX12_bestMend_121 rfl ?_
    refine g_iload_n dX12_bestMend_123 rfl ?_
    refine g_imul dX12_bestMend_124 ?_
    refine g_iadd dX12_bestMend_125 ?_
    refine g_iload_n dX12_bestMend_126 rfl ?_
    refine g_iadd dX12_bestMend_127 ?_
    refine g_aload_n dX12_bestMend_128 rfl ?_
    refine g_getR dX12_bestMend_129 fl_X12_81 sh_97 (al_97 hn) (fun _ _ _ => rfl) rf_97_36 ?_
    refine g_iload dX12_bestMend_132 rfl ?_
    obtain ⟨o4, w⟩ := w
    refine g_iald dX12_bestMend_134 sh_114 (al_114 hn) (Nat.le_of_ble_eq_true rfl) o4 ?_
    obtain ⟨o5, w⟩ := w
    refine g_iast dX12_bestMend_135 sh_99 (al_99 hn) (Nat.le_of_ble_eq_true rfl) o5 ?_
    refine g_aload_n dX12_bestMend_136 rfl ?_
    refine g_iload_n dX12_bestMend_137 rfl ?_
    refine g_aload_n dX12_bestMend_138 rfl ?_
    refine g_iload_n dX12_bestMend_139 rfl ?_
    refine g_callVI (n := 1) (As := [aI x1]) (st := [aI x1, aP 97]) dX12_bestMend_140 ml_X12_487 sh_97 rfl (al_97 hn) rfl rfl (Nat.le_of_ble_eq_true rfl) (RtI.mono w (fun r1 h1 w => ?_))
    refine g_callVI (n := 2) (As := [aI x1, aI r1]) (st := []) dX12_bestMend_143 ml_X12_484 sh_97 rfl (al_97 hn) rfl rfl (Nat.le_of_ble_eq_true rfl) (RtI.mono w (fun r2 h2 w => ?_))
    refine g_istore (ls' := [aP 97, aI x1, aI x2, aI x3, aI x4, aI x5, aI r2]) dX12_bestMend_146 (Nat.le_of_ble_eq_true rfl) rfl rfl ?_
    refine g_iload dX12_bestMend_148 rfl ?_
    refine g_iload_n dX12_bestMend_150 rfl ?_
    obtain ⟨o6, w⟩ := w
    obtain ⟨o7, w⟩ := w
    refine g_cmp_gt (tgt := 157) dX12_bestMend_151 rfl o6 o7 ?_
    refine ite_imp (fun w => ?_) (fun w => ?_) w
    · refine g_iload dX12_bestMend_157 rfl ?_
      refine g_istore_n (ls' := [aP 97, aI x1, aI r2, aI x3, aI x4, aI x5, aI r2]) dX12_bestMend_159 (Nat.le_of_ble_eq_true rfl) rfl rfl ?_
      refine g_aload_n dX12_bestMend_160 rfl ?_
      refine g_iload dX12_bestMend_161 rfl ?_
      refine g_putI (J := 60) dX12_bestMend_163 fl_X12_496 sh_97 (al_97 hn) rfl rfl ?_
      refine g_aload_n dX12_bestMend_166 rfl ?_
      refine g_aload_n dX12_bestMend_167 rfl ?_
      refine g_getR dX12_bestMend_168 fl_X12_81 sh_97 (al_97 hn) (fun _ _ _ => rfl) rf_97_36 ?_
      refine g_iload dX12_bestMend_171 rfl ?_
      refine g_iald dX12_bestMend_173 sh_114 (al_114 hn) (Nat.le_of_ble_eq_true rfl) o4 ?_
      refine g_putI (J := 61) dX12_bestMend_174 fl_X12_499 sh_97 (al_97 hn) rfl rfl ?_
      refine g_iinc (ls' := [aP 97, aI x1, aI r2, aI x3, aI x4, aI (x5 + 1), aI r2]) dX12_bestMend_177 rfl (Nat.le_of_ble_eq_true rfl) rfl rfl ?_
      refine g_goto (tgt := 105) dX12_bestMend_180 rfl ?_
      exact g_sub (ls' := [aP 97, aI x1, aI r2, aI x3, aI x4, aI (x5 + 1), aU]) ⟨Or.inr rfl, Or.inr rfl, Or.inr rfl, Or.inr rfl, Or.inr rfl, Or.inr rfl, Or.inl rfl, trivial⟩ w
    · refine g_goto (tgt := 177) dX12_bestMend_154 rfl ?_
      refine g_iinc (ls' := [aP 97, aI x1, aI x2, aI x3, aI x4, aI (x5 + 1), aI r2]) dX12_bestMend_177 rfl (Nat.le_of_ble_eq_true rfl) rfl rfl ?_
      refine g_goto (tgt := 105) dX12_bestMend_180 rfl ?_
      exact g_sub (ls' := [aP 97, aI x1, aI x2, aI x3, aI x4, aI (x5 + 1), aU]) ⟨Or.inr rfl, Or.inr rfl, Or.inr rfl, Or.inr rfl, Or.inr rfl, Or.inr rfl, Or.inl rfl, trivial⟩ w
theorem e_X12_bestMend {l : Launch} {D : Nat} {ζ : ZP} {h : HI} {Q : Int → HI → Prop} {x1 : Int} (hn : 144 ≤ ζ.2.2.2.2) (w : RtV l D mX12_taken (zz ζ) [aP 97, aI 540] (hu h 97 0 0) (fun h1 => RtI l D mX12_isPack (zz ζ) [aP 97, aI x1] h1 (fun r2 h2 => (rg r2) ∧ (if r2 = 0 then (Q (-1) h2) else (RtI l D mX12_tells (zz ζ) [aP 97, aI 1, aI 10] h2 (fun r3 h3 => (rg r3) ∧ (if ¬ r3 = 0 then (G l (D + 1) 0 0 mX12_bestMend (zz ζ) 34 [aP 97, aI x1, aI 0, aU, aU, aU, aU] [] h3 (qI (zz ζ) Q)) else (Q (-1) h3)))))))) : RtI l (D + 1) mX12_bestMend (zz ζ) [aP 97, aI x1] h Q := by
  refine RtI.of 5 pn_X12 [aP 97, aI x1, aU, aU, aU, aU, aU] rfl rfl ?_
  refine g_aload_n dX12_bestMend_0 rfl ?_
  refine g_iconst dX12_bestMend_1 ?_
  refine g_putI (J := 0) dX12_bestMend_2 fl_X12_1 sh_97 (al_97 hn) rfl rfl ?_
  refine g_aload_n dX12_bestMend_5 rfl ?_
  refine g_sipush dX12_bestMend_6 rfl ?_
  refine g_callVV (n := 1) (As := [aI 540]) (st := []) dX12_bestMend_9 ml_X12_292 sh_97 rfl (al_97 hn) rfl rfl (Nat.le_of_ble_eq_true rfl) (RtV.mono w (fun h1 w => ?_))
  refine g_aload_n dX12_bestMend_12 rfl ?_
  refine g_iload_n dX12_bestMend_13 rfl ?_
  refine g_callVI (n := 1) (As := [aI x1]) (st := []) dX12_bestMend_14 ml_X12_478 sh_97 rfl (al_97 hn) rfl rfl (Nat.le_of_ble_eq_true rfl) (RtI.mono w (fun r2 h2 w => ?_))
  obtain ⟨o1, w⟩ := w
  refine g_if_eq (tgt := 30) dX12_bestMend_17 rfl o1 ?_
  refine ite_imp (fun w => ?_) (fun w => ?_) w
  · refine g_iconst dX12_bestMend_30 ?_
    exact g_retI dX12_bestMend_31 rfl w
  · refine g_aload_n dX12_bestMend_20 rfl ?_
    refine g_iconst dX12_bestMend_21 ?_
    refine g_bipush dX12_bestMend_22 rfl ?_
    refine g_callVI (n := 2) (As := [aI 1, aI 10]) (st := []) dX12_bestMend_24 ml_X12_412 sh_97 rfl (al_97 hn) rfl rfl (Nat.le_of_ble_eq_true rfl) (RtI.mono w (fun r3 h3 w => ?_))
    obtain ⟨o2, w⟩ := w
    refine g_if_ne (tgt := 32) dX12_bestMend_27 rfl o2 ?_
    refine ite_imp (fun w => ?_) (fun w => ?_) w
    · refine g_iconst dX12_bestMend_32 ?_
      refine g_istore_n (ls' := [aP 97, aI x1, aI 0, aU, aU, aU, aU]) dX12_bestMend_33 (Nat.le_of_ble_eq_true rfl) rfl rfl ?_
      exact g_sub (ls' := [aP 97, aI x1, aI 0, aU, aU, aU, aU]) ⟨Or.inr rfl, Or.inr rfl, Or.inr rfl, Or.inl rfl, Or.inl rfl, Or.inl rfl, Or.inl rfl, trivial⟩ w
    · refine g_iconst dX12_bestMend_30 ?_
      exact g_retI dX12_bestMend_31 rfl w
theorem e_X12_bestBy {l : Launch} {D : Nat} {ζ : ZP} {h : HI} {Q : Int → HI → Prop} {x1 : Int} (hn : 144 ≤ ζ.2.2.2.2) (w : (rg (h 97 59)) ∧ (if ¬ (h 97 59) = 0 then ((rg x1) ∧ (if ¬ x1 = 0 then (if ¬ x1 = 1 then (Q (-1) (hu h 97 0 0)) else (Q (h 97 61) (hu h 97 0 0))) else (Q (h 97 60) (hu h 97 0 0)))) else (Q (-1) (hu h 97 0 0)))) : RtI l (D + 1) mX12_bestBy (zz ζ) [aP 97, aI x1] h Q := by
  refine RtI.of 0 pn_X12 [aP 97, aI x1] rfl rfl ?_
  refine g_aload_n dX12_bestBy_0 rfl ?_
  refine g_iconst dX12_bestBy_1 ?_
  refine g_putI (J := 0) dX12_bestBy_2 fl_X12_1 sh_97 (al_97 hn) rfl rfl ?_
  refine g_aload_n dX12_bestBy_5 rfl ?_
  refine g_getI (J := 59) dX12_bestBy_6 fl_X12_502 sh_97 (al_97 hn) (fun _ _ _ => rfl) rfl ?_
  obtain ⟨o1, w⟩ := w
  refine g_if_ne (tgt := 16) dX12_bestBy_9 rfl o1 ?_
  refine ite_imp (fun w => ?_) (fun w => ?_) w
  · refine g_iload_n dX12_bestBy_16 rfl ?_
    obtain ⟨o2, w⟩ := w
    refine g_if_ne (tgt := 27) dX12_bestBy_17 rfl o2 ?_
    refine ite_imp (fun w => ?_) (fun w => ?_) w
    · refine g_iload_n dX12_bestBy_27 rfl ?_
      refine g_iconst dX12_bestBy_28 ?_
      refine g_cmp_ne (tgt := 39) dX12_bestBy_29 rfl o2 (by decide) ?_
      refine ite_imp (fun w => ?_) (fun w => ?_) w
      · refine g_iconst dX12_bestBy_39 ?_
        exact g_retI dX12_bestBy_40 rfl w
      · refine g_aload_n dX12_bestBy_32 rfl ?_
        refine g_getI (J := 61) dX12_bestBy_33 fl_X12_499 sh_97 (al_97 hn) (fun _ _ _ => rfl) rfl ?_
        refine g_goto (tgt := 40) dX12_bestBy_36 rfl ?_
        exact g_retI dX12_bestBy_40 rfl w
    · refine g_aload_n dX12_bestBy_20 rfl ?_
      refine g_getI (J := 60) dX12_bestBy_21 fl_X12_496 sh_97 (al_97 hn) (fun _ _ _ => rfl) rfl ?_
      refine g_goto (tgt := 40) dX12_bestBy_24 rfl ?_
      exact g_retI dX12_bestBy_40 rfl w
  · refine g_iconst dX12_bestBy_12 ?_
    refine g_goto (tgt := 40) dX12_bestBy_13 rfl ?_
    exact g_retI dX12_bestBy_40 rfl w
theorem b_X12_balance_36 {l : Launch} {D : Nat} {ζ : ZP} {h : HI} {Q : Int → HI → Prop} {x1 x2 : Int} (hn : 144 ≤ ζ.2.2.2.2) (w : (rg x2) ∧ (rg (h 97 3)) ∧ (if (h 97 3) ≤ x2 then (RtV l D mX12_settle (zz ζ) [aP 97] h (fun h1 => G l (D + 1) 0 0 mX12_balance (zz ζ) 68 [aP 97, aI x1, aI 0, aU] [] h1 (qI (zz ζ) Q))) else (RtI l D mX12_octet (zz ζ) [aP 97, aI x2] h (fun r2 h2 => (rg r2) ∧ (if r2 ≤ 100 then (G l (D + 1) 0 0 mX12_balance (zz ζ) 36 [aP 97, aI x1, aI (x2 + 1), aU] [] h2 (qI (zz ζ) Q)) else (Q (-1) h2)))))) : G l (D + 1) 0 0 mX12_balance (zz ζ) 36 [aP 97, aI x1, aI x2, aU] [] h (qI (zz ζ) Q) := by
  refine g_iload_n dX12_balance_36 rfl ?_
  refine g_aload_n dX12_balance_37 rfl ?_
  refine g_getI (J := 3) dX12_balance_38 fl_X12_18 sh_97 (al_97 hn) (fun _ _ _ => rfl) rfl ?_
  obtain ⟨o1, w⟩ := w
  obtain ⟨o2, w⟩ := w
  refine g_cmp_ge (tgt := 62) dX12_balance_41 rfl o1 o2 ?_
  refine ite_imp (fun w => ?_) (fun w => ?_) w
  · refine g_aload_n dX12_balance_62 rfl ?_
    refine g_callVV (n := 0) (As := []) (st := []) dX12_balance_63 ml_X12_324 sh_97 rfl (al_97 hn) rfl rfl (Nat.le_of_ble_eq_true rfl) (RtV.mono w (fun h1 w => ?_))
    refine g_iconst dX12_balance_66 ?_
    refine g_istore_n (ls' := [aP 97, aI x1, aI 0, aU]) dX12_balance_67 (Nat.le_of_ble_eq_true rfl) rfl rfl ?_
    exact g_sub (ls' := [aP 97, aI x1, aI 0, aU]) ⟨Or.inr rfl, Or.inr rfl, Or.inr rfl, Or.inl rfl, trivial⟩ w
  · refine g_aload_n dX12_balance_44 rfl ?_
    refine g_iload_n dX12_balance_45 rfl ?_
    refine g_callVI (n := 1) (As := [aI x2]) (st := []) dX12_balance_46 ml_X12_400 sh_97 rfl (al_97 hn) rfl rfl (Nat.le_of_ble_eq_true rfl) (RtI.mono w (fun r2 h2 w => ?_))
    refine g_bipush dX12_balance_49 rfl ?_
    obtain ⟨o3, w⟩ := w
    refine g_cmp_le (tgt := 56) dX12_balance_51 rfl o3 (by decide) ?_
    refine ite_imp (fun w => ?_) (fun w => ?_) w
    · refine g_iinc (ls' := [aP 97, aI x1, aI (x2 + 1), aU]) dX12_balance_56 rfl (Nat.le_of_ble_eq_true rfl) rfl rfl ?_
      refine g_goto (tgt := 36) dX12_balance_59 rfl ?_
      exact g_sub (ls' := [aP 97, aI x1, aI (x2 + 1), aU]) ⟨Or.inr rfl, Or.inr rfl, Or.inr rfl, Or.inl rfl, trivial⟩ w
    · refine g_iconst dX12_balance_54 ?_
      exact g_retI dX12_balance_55 rfl w
theorem b_X12_balance_68 {l : Launch} {D : Nat} {ζ : ZP} {h : HI} {Q : Int → HI → Prop} {x1 x2 : Int} (hn : 144 ≤ ζ.2.2.2.2) (w : (rg x2) ∧ (rg (h 97 3)) ∧ (if (h 97 3) ≤ x2 then (RtI l D mX12_weakOf (zz ζ) [aP 97, aI (h 97 3)] h (fun r1 h1 => G l (D + 1) 0 0 mX12_balance (zz ζ) 119 [aP 97, aU, aI r1, aI 0] [] (hu h1 97 62 0) (qI (zz ζ) Q))) else (RtI l D mX12_holdOf (zz ζ) [aP 97, aI x1, aI x2] h (fun r2 h2 => RtI l D mX12_octet (zz ζ) [aP 97, aI x2] h2 (fun r3 h3 => (rg (r2 * r3)) ∧ (0 ≤ x2 ∧ x2 < 60) ∧ G l (D + 1) 0 0 mX12_balance (zz ζ) 68 [aP 97, aI x1, aI (x2 + 1), aU] [] (hu h3 118 x2 ((r2 * r3).tdiv 100)) (qI (zz ζ) Q)))))) : G l (D + 1) 0 0 mX12_balance (zz ζ) 68 [aP 97, aI x1, aI x2, aU] [] h (qI (zz ζ) Q) := by
  refine g_iload_n dX12_balance_68 rfl ?_
  refine g_aload_n dX12_balance_69 rfl ?_
  refine g_getI (J := 3) dX12_balance_70 fl_X12_18 sh_97 (al_97 hn) (fun _ _ _ => rfl) rfl ?_
  obtain ⟨o1, w⟩ := w
  obtain ⟨o2, w⟩ := w
  refine g_cmp_ge (tgt := 103) dX12_balance_73 rfl o1 o2 ?_
  refine ite_imp (fun w => ?_) (fun w => ?_) w
  · refine g_aload_n dX12_balance_103 rfl ?_
    refine g_aload_n dX12_balance_104 rfl ?_
    refine g_getI (J := 3) dX12_balance_105 fl_X12_18 sh_97 (al_97 hn) (fun _ _ _ => rfl) rfl ?_
    refine g_callVI (n := 1) (As := [aI (h 97 3)]) (st := []) dX12_balance_108 ml_X12_430 sh_97 rfl (al_97 hn) rfl rfl (Nat.le_of_ble_eq_true rfl) (RtI.mono w (fun r1 h1 w => ?_))
    refine g_istore_n (ls' := [aP 97, aI x1, aI r1, aU]) dX12_balance_111 (Nat.le_of_ble_eq_true rfl) rfl rfl ?_
    refine g_aload_n dX12_balance_112 rfl ?_
    refine g_iconst dX12_balance_113 ?_
    refine g_putI (J := 62) dX12_balance_114 fl_X12_114 sh_97 (al_97 hn) rfl rfl ?_
    refine g_iconst dX12_balance_117 ?_
    refine g_istore_n (ls' := [aP 97, aI x1, aI r1, aI 0]) dX12_balance_118 (Nat.le_of_ble_eq_true rfl) rfl rfl ?_
    exact g_sub (ls' := [aP 97, aU, aI r1, aI 0]) ⟨Or.inr rfl, Or.inl rfl, Or.inr rfl, Or.inr rfl, trivial⟩ w
  · refine g_aload_n dX12_balance_76 rfl ?_
    refine g_getR dX12_balance_77 fl_X12_93 sh_97 (al_97 hn) (fun _ _ _ => rfl) rf_97_40 ?_
    refine g_iload_n dX12_balance_80 rfl ?_
    refine g_aload_n dX12_balance_81 rfl ?_
    refine g_iload_n dX12_balance_82 rfl ?_
    refine g_iload_n dX12_balance_83 rfl ?_
    refine g_callVI (n := 2) (As := [aI x1, aI x2]) (st := [aI x2, aP 118]) dX12_balance_84 ml_X12_472 sh_97 rfl (al_97 hn) rfl rfl (Nat.le_of_ble_eq_true rfl) (RtI.mono w (fun r2 h2 w => ?_))
    refine g_aload_n dX12_balance_87 rfl ?_
    refine g_iload_n dX12_balance_88 rfl ?_
    refine g_callVI (n := 1) (As := [aI x2]) (st := [aI r2, aI x2, aP 118]) dX12_balance_89 ml_X12_400 sh_97 rfl (al_97 hn) rfl rfl (Nat.le_of_ble_eq_true rfl) (RtI.mono w (fun r3 h3 w => ?_))
    refine g_imul dX12_balance_92 ?_
    refine g_bipush dX12_balance_93 rfl ?_
    obtain ⟨o3, w⟩ := w
    refine g_idiv dX12_balance_95 o3 (by decide) (by decide) ?_
    obtain ⟨o4, w⟩ := w
    refine g_iast dX12_balance_96 sh_118 (al_118 hn) (Nat.le_of_ble_eq_true rfl) o4 ?_
    refine g_iinc (ls' := [aP 97, aI x1, aI (x2 + 1), aU]) dX12_balance_97 rfl (Nat.le_of_ble_eq_true rfl) rfl rfl ?_
    refine g_goto (tgt := 68) dX12_balance_100 rfl ?_
    exact g_sub (ls' := [aP 97, aI x1, aI (x2 + 1), aU]) ⟨Or.inr rfl, Or.inr rfl, Or.inr rfl, Or.inl rfl, trivial⟩ w
theorem b_X12_balance_119 {l : Launch} {D : Nat} {ζ : ZP} {h : HI} {Q : Int → HI → Prop} {x2 x3 : Int} (hn : 144 ≤ ζ.2.2.2.2) (w : (rg x3) ∧ (rg (h 97 3)) ∧ (if (h 97 3) ≤ x3 then (RtI l D mX12_strongOf (zz ζ) [aP 97, aI (h 97 3)] h (fun r1 h1 => (rg (((r1 - x2) + (h1 99 5)) - 1)) ∧ (rg (h1 99 5)) ∧ ((h1 99 5) ≠ 0) ∧ Q ((((r1 - x2) + (h1 99 5)) - 1).tdiv (h1 99 5)) h1)) else ((0 ≤ x3 ∧ x3 < 60) ∧ G l (D + 1) 0 0 mX12_balance (zz ζ) 119 [aP 97, aU, aI x2, aI (x3 + 1)] [] (hu h 97 62 ((h 97 62) + ((h 118 x3) - x2))) (qI (zz ζ) Q)))) : G l (D + 1) 0 0 mX12_balance (zz ζ) 119 [aP 97, aU, aI x2, aI x3] [] h (qI (zz ζ) Q) := by
  refine g_iload_n dX12_balance_119 rfl ?_
  refine g_aload_n dX12_balance_120 rfl ?_
  refine g_getI (J := 3) dX12_balance_121 fl_X12_18 sh_97 (al_97 hn) (fun _ _ _ => rfl) rfl ?_
  obtain ⟨o1, w⟩ := w
  obtain ⟨o2, w⟩ := w
  refine g_cmp_ge (tgt := 150) dX12_balance_124 rfl o1 o2 ?_
  refine ite_imp (fun w => ?_) (fun w => ?_) w
  · refine g_aload_n dX12_balance_150 rfl ?_
    refine g_aload_n dX12_balance_151 rfl ?_
    refine g_getI (J := 3) dX12_balance_152 fl_X12_18 sh_97 (al_97 hn) (fun _ _ _ => rfl) rfl ?_
    refine g_callVI (n := 1) (As := [aI (h 97 3)]) (st := []) dX12_balance_155 ml_X12_433 sh_97 rfl (al_97 hn) rfl rfl (Nat.le_of_ble_eq_true rfl) (RtI.mono w (fun r1 h1 w => ?_))
    refine g_iload_n dX12_balance_158 rfl ?_
    refine g_isub dX12_balance_159 ?_
    refine g_aload_n dX12_balance_160 rfl ?_
    refine g_getR dX12_balance_161 fl_X12_33 sh_97 (al_97 hn) (fun _ _ _ => rfl) rf_97_6 ?_
    refine g_iconst dX12_balance_164 ?_
    refine g_iald dX12_balance_165 sh_99 (al_99 hn) (Nat.le_of_ble_eq_true rfl) (by decide) ?_
    refine g_iadd dX12_balance_166 ?_
    refine g_iconst dX12_balance_167 ?_
    refine g_isub dX12_balance_168 ?_
    refine g_aload_n dX12_balance_169 rfl ?_
    refine g_getR dX12_balance_170 fl_X12_33 sh_97 (al_97 hn) (fun _ _ _ => rfl) rf_97_6 ?_
    refine g_iconst dX12_balance_173 ?_
    refine g_iald dX12_balance_174 sh_99 (al_99 hn) (Nat.le_of_ble_eq_true rfl) (by decide) ?_
    obtain ⟨o3, w⟩ := w
    obtain ⟨o4, w⟩ := w
    obtain ⟨o5, w⟩ := w
    refine g_idiv dX12_balance_175 o3 o4 o5 ?_
    exact g_retI dX12_balance_176 rfl w
  · refine g_aload_n dX12_balance_127 rfl ?_
    refine g_dup dX12_balance_128 rfl ?_
    refine g_getI (J := 62) dX12_balance_129 fl_X12_114 sh_97 (al_97 hn) (fun _ _ _ => rfl) rfl ?_
    refine g_aload_n dX12_balance_132 rfl ?_
    refine g_getR dX12_balance_133 fl_X12_93 sh_97 (al_97 hn) (fun _ _ _ => rfl) rf_97_40 ?_
    refine g_iload_n dX12_balance_136 rfl ?_
    obtain ⟨o6, w⟩ := w
    refine g_iald dX12_balance_137 sh_118 (al_118 hn) (Nat.le_of_ble_eq_true rfl) o6 ?_
    refine g_iload_n dX12_balance_138 rfl ?_
    refine g_isub dX12_balance_139 ?_
    refine g_iadd dX12_balance_140 ?_
    refine g_putI (J := 62) dX12_balance_141 fl_X12_114 sh_97 (al_97 hn) rfl rfl ?_
    refine g_iinc (ls' := [aP 97, aU, aI x2, aI (x3 + 1)]) dX12_balance_144 rfl (Nat.le_of_ble_eq_true rfl) rfl rfl ?_
    refine g_goto (tgt := 119) dX12_balance_147 rfl ?_
    exact g_sub (ls' := [aP 97, aU, aI x2, aI (x3 + 1)]) ⟨Or.inr rfl, Or.inl rfl, Or.inr rfl, Or.inr rfl, trivial⟩ w
theorem e_X12_balance {l : Launch} {D : Nat} {ζ : ZP} {h : HI} {Q : Int → HI → Prop} {x1 : Int} (hn : 144 ≤ ζ.2.2.2.2) (w : RtV l D mX12_taken (zz ζ) [aP 97, aI 540] (hu h 97 0 0) (fun h1 => RtI l D mX12_isPack (zz ζ) [aP 97, aI x1] h1 (fun r2 h2 => (rg r2) ∧ (if r2 = 0 then (Q (-1) h2) else (RtI l D mX12_rowsIn (zz ζ) [aP 97, aI x1] h2 (fun r3 h3 => (rg (h2 97 3)) ∧ (rg r3) ∧ (if (h2 97 3) = r3 then (G l (D + 1) 0 0 mX12_balance (zz ζ) 36 [aP 97, aI x1, aI 0, aU] [] h3 (qI (zz ζ) Q)) else (Q (-1) h3)))))))) : RtI l (D + 1) mX12_balance (zz ζ) [aP 97, aI x1] h Q := by
  refine RtI.of 2 pn_X12 [aP 97, aI x1, aU, aU] rfl rfl ?_
  refine g_aload_n dX12_balance_0 rfl ?_
  refine g_iconst dX12_balance_1 ?_
  refine g_putI (J := 0) dX12_balance_2 fl_X12_1 sh_97 (al_97 hn) rfl rfl ?_
  refine g_aload_n dX12_balance_5 rfl ?_
  refine g_sipush dX12_balance_6 rfl ?_
  refine g_callVV (n := 1) (As := [aI 540]) (st := []) dX12_balance_9 ml_X12_292 sh_97 rfl (al_97 hn) rfl rfl (Nat.le_of_ble_eq_true rfl) (RtV.mono w (fun h1 w => ?_))
  refine g_aload_n dX12_balance_12 rfl ?_
  refine g_iload_n dX12_balance_13 rfl ?_
  refine g_callVI (n := 1) (As := [aI x1]) (st := []) dX12_balance_14 ml_X12_478 sh_97 rfl (al_97 hn) rfl rfl (Nat.le_of_ble_eq_true rfl) (RtI.mono w (fun r2 h2 w => ?_))
  obtain ⟨o1, w⟩ := w
  refine g_if_eq (tgt := 32) dX12_balance_17 rfl o1 ?_
  refine ite_imp (fun w => ?_) (fun w => ?_) w
  · refine g_iconst dX12_balance_32 ?_
    exact g_retI dX12_balance_33 rfl w
  · refine g_aload_n dX12_balance_20 rfl ?_
    refine g_getI (J := 3) dX12_balance_21 fl_X12_18 sh_97 (al_97 hn) (fun _ _ _ => rfl) rfl ?_
    refine g_aload_n dX12_balance_24 rfl ?_
    refine g_iload_n dX12_balance_25 rfl ?_
    refine g_callVI (n := 1) (As := [aI x1]) (st := [aI (h2 97 3)]) dX12_balance_26 ml_X12_481 sh_97 rfl (al_97 hn) rfl rfl (Nat.le_of_ble_eq_true rfl) (RtI.mono w (fun r3 h3 w => ?_))
    obtain ⟨o2, w⟩ := w
    obtain ⟨o3, w⟩ := w
    refine g_cmp_eq (tgt := 34) dX12_balance_29 rfl o2 o3 ?_
    refine ite_imp (fun w => ?_) (fun w => ?_) w
    · refine g_iconst dX12_balance_34 ?_
      refine g_istore_n (ls' := [aP 97, aI x1, aI 0, aU]) dX12_balance_35 (Nat.le_of_ble_eq_true rfl) rfl rfl ?_
      exact g_sub (ls' := [aP 97, aI x1, aI 0, aU]) ⟨Or.inr rfl, Or.inr rfl, Or.inr rfl, Or.inl rfl, trivial⟩ w
    · refine g_iconst dX12_balance_32 ?_
      exact g_retI dX12_balance_33 rfl w
theorem e_X12_lost {l : Launch} {D : Nat} {ζ : ZP} {h : HI} {Q : Int → HI → Prop} (hn : 144 ≤ ζ.2.2.2.2) (w : Q (h 97 62) (hu h 97 0 0)) : RtI l (D + 1) mX12_lost (zz ζ) [aP 97] h Q := by
  refine RtI.of 0 pn_X12 [aP 97] rfl rfl ?_
  refine g_aload_n dX12_lost_0 rfl ?_
  refine g_iconst dX12_lost_1 ?_
  refine g_putI (J := 0) dX12_lost_2 fl_X12_1 sh_97 (al_97 hn) rfl rfl ?_
  refine g_aload_n dX12_lost_5 rfl ?_
  refine g_getI (J := 62) dX12_lost_6 fl_X12_114 sh_97 (al_97 hn) (fun _ _ _ => rfl) rfl ?_
  exact g_retI dX12_lost_9 rfl w
theorem b_X12_shorted_55 {l : Launch} {D : Nat} {ζ : ZP} {h : HI} {Q : Int → HI → Prop} {x1 x2 x3 x4 x5 x6 : Int} (hn : 144 ≤ ζ.2.2.2.2) (w : RtI l D mX12_wide (zz ζ) [aP 97, aI x2] h (fun r1 h1 => (rg x6) ∧ (rg r1) ∧ (if r1 ≤ x6 then ((rg x5) ∧ (rg (h1 99 6)) ∧ (if x5 ≤ (h1 99 6) then (Q ((10 * x4) + 0) h1) else (Q ((10 * x4) + 1) h1))) else (RtI l D mX12_wide (zz ζ) [aP 97, aI x2] h1 (fun r2 h2 => (0 ≤ (((2107 + (40 * x2)) + (r2 * x3)) + x6) ∧ (((2107 + (40 * x2)) + (r2 * x3)) + x6) < 2819) ∧ (rg (h2 99 (((2107 + (40 * x2)) + (r2 * x3)) + x6))) ∧ (rg x1) ∧ (if ¬ (h2 99 (((2107 + (40 * x2)) + (r2 * x3)) + x6)) = x1 then ((0 ≤ x1 ∧ x1 < 60) ∧ (0 ≤ (h2 99 (((2107 + (40 * x2)) + (r2 * x3)) + x6)) ∧ (h2 99 (((2107 + (40 * x2)) + (r2 * x3)) + x6)) < 60) ∧ (rg ((h2 107 x1) + (h2 107 (h2 99 (((2107 + (40 * x2)) + (r2 * x3)) + x6))))) ∧ (((h2 107 x1) + (h2 107 (h2 99 (((2107 + (40 * x2)) + (r2 * x3)) + x6)))) ≠ 0) ∧ (rg ((37000 : Int).tdiv ((h2 107 x1) + (h2 107 (h2 99 (((2107 + (40 * x2)) + (r2 * x3)) + x6)))))) ∧ (rg (h2 99 6)) ∧ (if ((37000 : Int).tdiv ((h2 107 x1) + (h2 107 (h2 99 (((2107 + (40 * x2)) + (r2 * x3)) + x6))))) ≤ (h2 99 6) then (G l (D + 1) 0 0 mX12_shorted (zz ζ) 55 [aP 97, aI x1, aI x2, aI x3, aI (x4 + 0), aI (x5 + ((37000 : Int).tdiv ((h2 107 x1) + (h2 107 (h2 99 (((2107 + (40 * x2)) + (r2 * x3)) + x6)))))), aI (x6 + 1), aU, aU] [] h2 (qI (zz ζ) Q)) else (G l (D + 1) 0 0 mX12_shorted (zz ζ) 55 [aP 97, aI x1, aI x2, aI x3, aI (x4 + 1), aI (x5 + ((37000 : Int).tdiv ((h2 107 x1) + (h2 107 (h2 99 (((2107 + (40 * x2)) + (r2 * x3)) + x6)))))), aI (x6 + 1), aU, aU] [] h2 (qI (zz ζ) Q)))) else (G l (D + 1) 0 0 mX12_shorted (zz ζ) 55 [aP 97, aI x1, aI x2, aI x3, aI x4, aI x5, aI (x6 + 1), aU, aU] [] h2 (qI (zz ζ) Q)))))))) : G l (D + 1) 0 0 mX12_shorted (zz ζ) 55 [aP 97, aI x1, aI x2, aI x3, aI x4, aI x5, aI x6, aU, aU] [] h (qI (zz ζ) Q) := by
  refine g_iload dX12_shorted_55 rfl ?_
  refine g_aload_n dX12_shorted_57 rfl ?_
  refine g_iload_n dX12_shorted_58 rfl ?_
  refine g_callVI (n := 1) (As := [aI x2]) (st := [aI x6]) dX12_shorted_59 ml_X12_464 sh_97 rfl (al_97 hn) rfl rfl (Nat.le_of_ble_eq_true rfl) (RtI.mono w (fun r1 h1 w => ?_))
  obtain ⟨o1, w⟩ := w
  obtain ⟨o2, w⟩ := w
  refine g_cmp_ge (tgt := 155) dX12_shorted_62 rfl o1 o2 ?_
  refine ite_imp (fun w => ?_) (fun w => ?_) w
  · refine g_bipush dX12_shorted_155 rfl ?_
    refine g_iload dX12_shorted_157 rfl ?_
    refine g_imul dX12_shorted_159 ?_
    refine g_iload dX12_shorted_160 rfl ?_
    refine g_aload_n dX12_shorted_162 rfl ?_
    refine g_getR dX12_shorted_163 fl_X12_33 sh_97 (al_97 hn) (fun _ _ _ => rfl) rf_97_6 ?_
    refine g_bipush dX12_shorted_166 rfl ?_
    refine g_iald dX12_shorted_168 sh_99 (al_99 hn) (Nat.le_of_ble_eq_true rfl) (by decide) ?_
    obtain ⟨o3, w⟩ := w
    obtain ⟨o4, w⟩ := w
    refine g_cmp_le (tgt := 176) dX12_shorted_169 rfl o3 o4 ?_
    refine ite_imp (fun w => ?_) (fun w => ?_) w
    · refine g_iconst dX12_shorted_176 ?_
      refine g_iadd dX12_shorted_177 ?_
      exact g_retI dX12_shorted_178 rfl w
    · refine g_iconst dX12_shorted_172 ?_
      refine g_goto (tgt := 177) dX12_shorted_173 rfl ?_
      refine g_iadd dX12_shorted_177 ?_
      exact g_retI dX12_shorted_178 rfl w
  · refine g_aload_n dX12_shorted_65 rfl ?_
    refine g_getR dX12_shorted_66 fl_X12_33 sh_97 (al_97 hn) (fun _ _ _ => rfl) rf_97_6 ?_
    refine g_sipush dX12_shorted_69 rfl ?_
    refine g_bipush dX12_shorted_72 rfl ?_
    refine g_iload_n dX12_shorted_74 rfl ?_
    refine g_imul dX12_shorted_75 ?_
    refine g_iadd dX12_shorted_76 ?_
    refine g_aload_n dX12_shorted_77 rfl ?_
    refine g_iload_n dX12_shorted_78 rfl ?_
    refine g_callVI (n := 1) (As := [aI x2]) (st := [aI (2107 + (40 * x2)), aP 99]) dX12_shorted_79 ml_X12_464 sh_97 rfl (al_97 hn) rfl rfl (Nat.le_of_ble_eq_true rfl) (RtI.mono w (fun r2 h2 w => ?_))
    refine g_iload_n dX12_shorted_82 rfl ?_
    refine g_imul dX12_shorted_83 ?_
    refine g_iadd dX12_shorted_84 ?_
    refine g_iload dX12_shorted_85 rfl ?_
    refine g_iadd dX12_shorted_87 ?_
    obtain ⟨o5, w⟩ := w
    refine g_iald dX12_shorted_88 sh_99 (al_99 hn) (Nat.le_of_ble_eq_true rfl) o5 ?_
    refine g_istore (ls' := [aP 97, aI x1, aI x2, aI x3, aI x4, aI x5, aI x6, aI (h2 99 (((2107 + (40 * x2)) + (r2 * x3)) + x6)), aU]) dX12_shorted_89 (Nat.le_of_ble_eq_true rfl) rfl rfl ?_
    refine g_iload dX12_shorted_91 rfl ?_
    refine g_iload_n dX12_shorted_93 rfl ?_
    obtain ⟨o6, w⟩ := w
    obtain ⟨o7, w⟩ := w
    refine g_cmp_ne (tgt := 100) dX12_shorted_94 rfl o6 o7 ?_
    refine ite_imp (fun w => ?_) (fun w => ?_) w
    · refine g_ldcw (n := 37000) dX12_shorted_100 ko_X12_506 rfl ?_
      refine g_aload_n dX12_shorted_103 rfl ?_
      refine g_getR dX12_shorted_104 fl_X12_60 sh_97 (al_97 hn) (fun _ _ _ => rfl) rf_97_24 ?_
      refine g_iload_n dX12_shorted_107 rfl ?_
      obtain ⟨o8, w⟩ := w
      refine g_iald dX12_shorted_108 sh_107 (al_107 hn) (Nat.le_of_ble_eq_true rfl) o8 ?_
      refine g_aload_n dX12_shorted_109 rfl ?_
      refine g_getR dX12_shorted_110 fl_X12_60 sh_97 (al_97 hn) (fun _ _ _ => rfl) rf_97_24 ?_
      refine g_iload dX12_shorted_113 rfl ?_
      obtain ⟨o9, w⟩ := w
      refine g_iald dX12_shorted_115 sh_107 (al_107 hn) (Nat.le_of_ble_eq_true rfl) o9 ?_
      refine g_iadd dX12_shorted_116 ?_
      obtain ⟨o10, w⟩ := w
      obtain ⟨o11, w⟩ := w
      refine g_idiv dX12_shorted_117 (by decide) o10 o11 ?_
      refine g_istore (ls' := [aP 97, aI x1, aI x2, aI x3, aI x4, aI x5, aI x6, aI (h2 99 (((2107 + (40 * x2)) + (r2 * x3)) + x6)), aI ((37000 : Int).tdiv ((h2 107 x1) + (h2 107 (h2 99 (((2107 + (40 * x2)) + (r2 * x3)) + x6)))))]) dX12_shorted_118 (Nat.le_of_ble_eq_true rfl) rfl rfl ?_
      refine g_iload dX12_shorted_120 rfl ?_
      refine g_iload dX12_shorted_122 rfl ?_
      refine g_aload_n dX12_shorted_124 rfl ?_
      refine g_getR dX12_shorted_125 fl_X12_33 sh_97 (al_97 hn) (fun _ _ _ => rfl) rf_97_6 ?_
      refine g_bipush dX12_shorted_128 rfl ?_
      refine g_iald dX12_shorted_130 sh_99 (al_99 hn) (Nat.le_of_ble_eq_true rfl) (by decide) ?_
      obtain ⟨o12, w⟩ := w
      obtain ⟨o13, w⟩ := w
      refine g_cmp_le (tgt := 138) dX12_shorted_131 rfl o12 o13 ?_
      refine ite_imp (fun w => ?_) (fun w => ?_) w
      · refine g_iconst dX12_shorted_138 ?_
        refine g_iadd dX12_shorted_139 ?_
        refine g_istore (ls' := [aP 97, aI x1, aI x2, aI x3, aI (x4 + 0), aI x5, aI x6, aI (h2 99 (((2107 + (40 * x2)) + (r2 * x3)) + x6)), aI ((37000 : Int).tdiv ((h2 107 x1) + (h2 107 (h2 99 (((2107 + (40 * x2)) + (r2 * x3)) + x6)))))]) dX12_shorted_140 (Nat.le_of_ble_eq_true rfl) rfl rfl ?_
        refine g_iload dX12_shorted_142 rfl ?_
        refine g_iload dX12_shorted_144 rfl ?_
        refine g_iadd dX12_shorted_146 ?_
        refine g_istore (ls' := [aP 97, aI x1, aI x2, aI x3, aI (x4 + 0), aI (x5 + ((37000 : Int).tdiv ((h2 107 x1) + (h2 107 (h2 99 (((2107 + (40 * x2)) + (r2 * x3)) + x6)))))), aI x6, aI (h2 99 (((2107 + (40 * x2)) + (r2 * x3)) + x6)), aI ((37000 : Int).tdiv ((h2 107 x1) + (h2 107 (h2 99 (((2107 + (40 * x2)) + (r2 * x3)) + x6)))))]) dX12_shorted_147 (Nat.le_of_ble_eq_true rfl) rfl rfl ?_
        refine g_iinc (ls' := [aP 97, aI x1, aI x2, aI x3, aI (x4 + 0), aI (x5 + ((37000 : Int).tdiv ((h2 107 x1) + (h2 107 (h2 99 (((2107 + (40 * x2)) + (r2 * x3)) + x6)))))), aI (x6 + 1), aI (h2 99 (((2107 + (40 * x2)) + (r2 * x3)) + x6)), aI ((37000 : Int).tdiv ((h2 107 x1) + (h2 107 (h2 99 (((2107 + (40 * x2)) + (r2 * x3)) + x6)))))]) dX12_shorted_149 rfl (Nat.le_of_ble_eq_true rfl) rfl rfl ?_
        refine g_goto (tgt := 55) dX12_shorted_152 rfl ?_
        exact g_sub (ls' := [aP 97, aI x1, aI x2, aI x3, aI (x4 + 0), aI (x5 + ((37000 : Int).tdiv ((h2 107 x1) + (h2 107 (h2 99 (((2107 + (40 * x2)) + (r2 * x3)) + x6)))))), aI (x6 + 1), aU, aU]) ⟨Or.inr rfl, Or.inr rfl, Or.inr rfl, Or.inr rfl, Or.inr rfl, Or.inr rfl, Or.inr rfl, Or.inl rfl, Or.inl rfl, trivial⟩ w
      · refine g_iconst dX12_shorted_134 ?_
        refine g_goto (tgt := 139) dX12_shorted_135 rfl ?_
        refine g_iadd dX12_shorted_139 ?_
        refine g_istore (ls' := [aP 97, aI x1, aI x2, aI x3, aI (x4 + 1), aI x5, aI x6, aI (h2 99 (((2107 + (40 * x2)) + (r2 * x3)) + x6)), aI ((37000 : Int).tdiv ((h2 107 x1) + (h2 107 (h2 99 (((2107 + (40 * x2)) + (r2 * x3)) + x6)))))]) dX12_shorted_140 (Nat.le_of_ble_eq_true rfl) rfl rfl ?_
        refine g_iload dX12_shorted_142 rfl ?_
        refine g_iload dX12_shorted_144 rfl ?_
        refine g_iadd dX12_shorted_146 ?_
        refine g_istore (ls' := [aP 97, aI x1, aI x2, aI x3, aI (x4 + 1), aI (x5 + ((37000 : Int).tdiv ((h2 107 x1) + (h2 107 (h2 99 (((2107 + (40 * x2)) + (r2 * x3)) + x6)))))), aI x6, aI (h2 99 (((2107 + (40 * x2)) + (r2 * x3)) + x6)), aI ((37000 : Int).tdiv ((h2 107 x1) + (h2 107 (h2 99 (((2107 + (40 * x2)) + (r2 * x3)) + x6)))))]) dX12_shorted_147 (Nat.le_of_ble_eq_true rfl) rfl rfl ?_
        refine g_iinc (ls' := [aP 97, aI x1, aI x2, aI x3, aI (x4 + 1), aI (x5 + ((37000 : Int).tdiv ((h2 107 x1) + (h2 107 (h2 99 (((2107 + (40 * x2)) + (r2 * x3)) + x6)))))), aI (x6 + 1), aI (h2 99 (((2107 + (40 * x2)) + (r2 * x3)) + x6)), aI ((37000 : Int).tdiv ((h2 107 x1) + (h2 107 (h2 99 (((2107 + (40 * x2)) + (r2 * x3)) + x6)))))]) dX12_shorted_149 rfl (Nat.le_of_ble_eq_true rfl) rfl rfl ?_
        refine g_goto (tgt := 55) dX12_shorted_152 rfl ?_
        exact g_sub (ls' := [aP 97, aI x1, aI x2, aI x3, aI (x4 + 1), aI (x5 + ((37000 : Int).tdiv ((h2 107 x1) + (h2 107 (h2 99 (((2107 + (40 * x2)) + (r2 * x3)) + x6)))))), aI (x6 + 1), aU, aU]) ⟨Or.inr rfl, Or.inr rfl, Or.inr rfl, Or.inr rfl, Or.inr rfl, Or.inr rfl, Or.inr rfl, Or.inl rfl, Or.inl rfl, trivial⟩ w
    · refine g_goto (tgt := 149) dX12_shorted_97 rfl ?_
      refine g_iinc (ls' := [aP 97, aI x1, aI x2, aI x3, aI x4, aI x5, aI (x6 + 1), aI (h2 99 (((2107 + (40 * x2)) + (r2 * x3)) + x6)), aU]) dX12_shorted_149 rfl (Nat.le_of_ble_eq_true rfl) rfl rfl ?_
      refine g_goto (tgt := 55) dX12_shorted_152 rfl ?_
      exact g_sub (ls' := [aP 97, aI x1, aI x2, aI x3, aI x4, aI x5, aI (x6 + 1), aU, aU]) ⟨Or.inr rfl, Or.inr rfl, Or.inr rfl, Or.inr rfl, Or.inr rfl, Or.inr rfl, Or.inr rfl, Or.inl rfl, Or.inl rfl, trivial⟩ w
theorem e_X12_shorted {l : Launch} {D : Nat} {ζ : ZP} {h : HI} {Q : Int → HI → Prop} {x1 : Int} (hn : 144 ≤ ζ.2.2.2.2) (w : RtI l D mX12_isCell (zz ζ) [aP 97, aI x1] (hu h 97 0 0) (fun r1 h1 => (rg r1) ∧ (if r1 = 0 then (Q (-1) h1) else (RtI l D mX12_packOf (zz ζ) [aP 97, aI x1] h1 (fun r2 h2 => (rg r2) ∧ (if 0 ≤ r2 then (RtV l D mX12_settle (zz ζ) [aP 97] h2 (fun h3 => RtI l D mX12_placeOf (zz ζ) [aP 97, aI r2, aI x1] h3 (fun r4 h4 => RtI l D mX12_wide (zz ζ) [aP 97, aI r2] h4 (fun r5 h5 => (rg r4) ∧ (rg r5) ∧ (r5 ≠ 0) ∧ G l (D + 1) 0 0 mX12_shorted (zz ζ) 55 [aP 97, aI x1, aI r2, aI (r4.tdiv r5), aI 0, aI 0, aI 0, aU, aU] [] h5 (qI (zz ζ) Q))))) else (Q (-1) h2))))))) : RtI l (D + 1) mX12_shorted (zz ζ) [aP 97, aI x1] h Q := by
  refine RtI.of 7 pn_X12 [aP 97, aI x1, aU, aU, aU, aU, aU, aU, aU] rfl rfl ?_
  refine g_aload_n dX12_shorted_0 rfl ?_
  refine g_iconst dX12_shorted_1 ?_
  refine g_putI (J := 0) dX12_shorted_2 fl_X12_1 sh_97 (al_97 hn) rfl rfl ?_
  refine g_aload_n dX12_shorted_5 rfl ?_
  refine g_iload_n dX12_shorted_6 rfl ?_
  refine g_callVI (n := 1) (As := [aI x1]) (st := []) dX12_shorted_7 ml_X12_304 sh_97 rfl (al_97 hn) rfl rfl (Nat.le_of_ble_eq_true rfl) (RtI.mono w (fun r1 h1 w => ?_))
  obtain ⟨o1, w⟩ := w
  refine g_if_eq (tgt := 21) dX12_shorted_10 rfl o1 ?_
  refine ite_imp (fun w => ?_) (fun w => ?_) w
  · refine g_iconst dX12_shorted_21 ?_
    refine g_istore_n (ls' := [aP 97, aI x1, aI (-1), aU, aU, aU, aU, aU, aU]) dX12_shorted_22 (Nat.le_of_ble_eq_true rfl) rfl rfl ?_
    refine g_iload_n dX12_shorted_23 rfl ?_
    refine g_if_ge (tgt := 29) dX12_shorted_24 rfl (by decide) ?_
    rw [if_neg (by decide)]
    refine g_iconst dX12_shorted_27 ?_
    exact g_retI dX12_shorted_28 rfl w
  · refine g_aload_n dX12_shorted_13 rfl ?_
    refine g_iload_n dX12_shorted_14 rfl ?_
    refine g_callVI (n := 1) (As := [aI x1]) (st := []) dX12_shorted_15 ml_X12_332 sh_97 rfl (al_97 hn) rfl rfl (Nat.le_of_ble_eq_true rfl) (RtI.mono w (fun r2 h2 w => ?_))
    refine g_goto (tgt := 22) dX12_shorted_18 rfl ?_
    refine g_istore_n (ls' := [aP 97, aI x1, aI r2, aU, aU, aU, aU, aU, aU]) dX12_shorted_22 (Nat.le_of_ble_eq_true rfl) rfl rfl ?_
    refine g_iload_n dX12_shorted_23 rfl ?_
    obtain ⟨o2, w⟩ := w
    refine g_if_ge (tgt := 29) dX12_shorted_24 rfl o2 ?_
    refine ite_imp (fun w => ?_) (fun w => ?_) w
    · refine g_aload_n dX12_shorted_29 rfl ?_
      refine g_callVV (n := 0) (As := []) (st := []) dX12_shorted_30 ml_X12_324 sh_97 rfl (al_97 hn) rfl rfl (Nat.le_of_ble_eq_true rfl) (RtV.mono w (fun h3 w => ?_))
      refine g_aload_n dX12_shorted_33 rfl ?_
      refine g_iload_n dX12_shorted_34 rfl ?_
      refine g_iload_n dX12_shorted_35 rfl ?_
      refine g_callVI (n := 2) (As := [aI r2, aI x1]) (st := []) dX12_shorted_36 ml_X12_490 sh_97 rfl (al_97 hn) rfl rfl (Nat.le_of_ble_eq_true rfl) (RtI.mono w (fun r4 h4 w => ?_))
      refine g_aload_n dX12_shorted_39 rfl ?_
      refine g_iload_n dX12_shorted_40 rfl ?_
      refine g_callVI (n := 1) (As := [aI r2]) (st := [aI r4]) dX12_shorted_41 ml_X12_464 sh_97 rfl (al_97 hn) rfl rfl (Nat.le_of_ble_eq_true rfl) (RtI.mono w (fun r5 h5 w => ?_))
      obtain ⟨o3, w⟩ := w
      obtain ⟨o4, w⟩ := w
      obtain ⟨o5, w⟩ := w
      refine g_idiv dX12_shorted_44 o3 o4 o5 ?_
      refine g_istore_n (ls' := [aP 97, aI x1, aI r2, aI (r4.tdiv r5), aU, aU, aU, aU, aU]) dX12_shorted_45 (Nat.le_of_ble_eq_true rfl) rfl rfl ?_
      refine g_iconst dX12_shorted_46 ?_
      refine g_istore (ls' := [aP 97, aI x1, aI r2, aI (r4.tdiv r5), aI 0, aU, aU, aU, aU]) dX12_shorted_47 (Nat.le_of_ble_eq_true rfl) rfl rfl ?_
      refine g_iconst dX12_shorted_49 ?_
      refine g_istore (ls' := [aP 97, aI x1, aI r2, aI (r4.tdiv r5), aI 0, aI 0, aU, aU, aU]) dX12_shorted_50 (Nat.le_of_ble_eq_true rfl) rfl rfl ?_
      refine g_iconst dX12_shorted_52 ?_
      refine g_istore (ls' := [aP 97, aI x1, aI r2, aI (r4.tdiv r5), aI 0, aI 0, aI 0, aU, aU]) dX12_shorted_53 (Nat.le_of_ble_eq_true rfl) rfl rfl ?_
      exact g_sub (ls' := [aP 97, aI x1, aI r2, aI (r4.tdiv r5), aI 0, aI 0, aI 0, aU, aU]) ⟨Or.inr rfl, Or.inr rfl, Or.inr rfl, Or.inr rfl, Or.inr rfl, Or.inr rfl, Or.inr rfl, Or.inl rfl, Or.inl rfl, trivial⟩ w
    · refine g_iconst dX12_shorted_27 ?_
      exact g_retI dX12_shorted_28 rfl w
theorem b_X12_held_39 {l : Launch} {D : Nat} {ζ : ZP} {h : HI} {Q : Int → HI → Prop} {x1 x2 x3 x4 : Int} (hn : 144 ≤ ζ.2.2.2.2) (w : (rg x4) ∧ (rg (h 99 14)) ∧ (if (h 99 14) ≤ x4 then (Q x3 h) else ((rg x2) ∧ (if x2 = (-1) then (G l (D + 1) 0 0 mX12_held (zz ζ) 82 [aP 97, aI x1, aI x2, aI x3, aI x4, aI 0, aI 0, aU] [] h (qI (zz ζ) Q)) else ((0 ≤ (1677 + (3 * x4)) ∧ (1677 + (3 * x4)) < 2819) ∧ (rg (h 99 (1677 + (3 * x4)))) ∧ (if (h 99 (1677 + (3 * x4))) ≤ x2 then (G l (D + 1) 0 0 mX12_held (zz ζ) 82 [aP 97, aI x1, aI x2, aI x3, aI x4, aI 0, aI 0, aU] [] h (qI (zz ζ) Q)) else (G l (D + 1) 0 0 mX12_held (zz ζ) 39 [aP 97, aI x1, aI x2, aI x3, aI (x4 + 1), aU, aU, aU] [] h (qI (zz ζ) Q)))))))) : G l (D + 1) 0 0 mX12_held (zz ζ) 39 [aP 97, aI x1, aI x2, aI x3, aI x4, aU, aU, aU] [] h (qI (zz ζ) Q) := by
  refine g_iload dX12_held_39 rfl ?_
  refine g_aload_n dX12_held_41 rfl ?_
  refine g_getR dX12_held_42 fl_X12_33 sh_97 (al_97 hn) (fun _ _ _ => rfl) rf_97_6 ?_
  refine g_bipush dX12_held_45 rfl ?_
  refine g_iald dX12_held_47 sh_99 (al_99 hn) (Nat.le_of_ble_eq_true rfl) (by decide) ?_
  obtain ⟨o1, w⟩ := w
  obtain ⟨o2, w⟩ := w
  refine g_cmp_ge (tgt := 381) dX12_held_48 rfl o1 o2 ?_
  refine ite_imp (fun w => ?_) (fun w => ?_) w
  · refine g_iload_n dX12_held_381 rfl ?_
    exact g_retI dX12_held_382 rfl w
  · refine g_iload_n dX12_held_51 rfl ?_
    refine g_iconst dX12_held_52 ?_
    obtain ⟨o3, w⟩ := w
    refine g_cmp_eq (tgt := 76) dX12_held_53 rfl o3 (by decide) ?_
    refine ite_imp (fun w => ?_) (fun w => ?_) w
    · refine g_iconst dX12_held_76 ?_
      refine g_istore (ls' := [aP 97, aI x1, aI x2, aI x3, aI x4, aI 0, aU, aU]) dX12_held_77 (Nat.le_of_ble_eq_true rfl) rfl rfl ?_
      refine g_iconst dX12_held_79 ?_
      refine g_istore (ls' := [aP 97, aI x1, aI x2, aI x3, aI x4, aI 0, aI 0, aU]) dX12_held_80 (Nat.le_of_ble_eq_true rfl) rfl rfl ?_
      exact g_sub (ls' := [aP 97, aI x1, aI x2, aI x3, aI x4, aI 0, aI 0, aU]) ⟨Or.inr rfl, Or.inr rfl, Or.inr rfl, Or.inr rfl, Or.inr rfl, Or.inr rfl, Or.inr rfl, Or.inl rfl, trivial⟩ w
    · refine g_aload_n dX12_held_56 rfl ?_
      refine g_getR dX12_held_57 fl_X12_33 sh_97 (al_97 hn) (fun _ _ _ => rfl) rf_97_6 ?_
      refine g_sipush dX12_held_60 rfl ?_
      refine g_iconst dX12_held_63 ?_
      refine g_iload dX12_held_64 rfl ?_
      refine g_imul dX12_held_66 ?_
      refine g_iadd dX12_held_67 ?_
      obtain ⟨o4, w⟩ := w
      refine g_iald dX12_held_68 sh_99 (al_99 hn) (Nat.le_of_ble_eq_true rfl) o4 ?_
      refine g_iload_n dX12_held_69 rfl ?_
      obtain ⟨o5, w⟩ := w
      refine g_cmp_le (tgt := 76) dX12_held_70 rfl o5 o3 ?_
      refine ite_imp (fun w => ?_) (fun w => ?_) w
      · refine g_iconst dX12_held_76 ?_
        refine g_istore (ls' := [aP 97, aI x1, aI x2, aI x3, aI x4, aI 0, aU, aU]) dX12_held_77 (Nat.le_of_ble_eq_true rfl) rfl rfl ?_
        refine g_iconst dX12_held_79 ?_
        refine g_istore (ls' := [aP 97, aI x1, aI x2, aI x3, aI x4, aI 0, aI 0, aU]) dX12_held_80 (Nat.le_of_ble_eq_true rfl) rfl rfl ?_
        exact g_sub (ls' := [aP 97, aI x1, aI x2, aI x3, aI x4, aI 0, aI 0, aU]) ⟨Or.inr rfl, Or.inr rfl, Or.inr rfl, Or.inr rfl, Or.inr rfl, Or.inr rfl, Or.inr rfl, Or.inl rfl, trivial⟩ w
      · refine g_goto (tgt := 375) dX12_held_73 rfl ?_
        refine g_iinc (ls' := [aP 97, aI x1, aI x2, aI x3, aI (x4 + 1), aU, aU, aU]) dX12_held_375 rfl (Nat.le_of_ble_eq_true rfl) rfl rfl ?_
        refine g_goto (tgt := 39) dX12_held_378 rfl ?_
        exact g_sub (ls' := [aP 97, aI x1, aI x2, aI x3, aI (x4 + 1), aU, aU, aU]) ⟨Or.inr rfl, Or.inr rfl, Or.inr rfl, Or.inr rfl, Or.inr rfl, Or.inl rfl, Or.inl rfl, Or.inl rfl, trivial⟩ w
theorem b_X12_held_82 {l : Launch} {D : Nat} {ζ : ZP} {h : HI} {Q : Int → HI → Prop} {x1 x2 x3 x4 x5 x6 : Int} (hn : 144 ≤ ζ.2.2.2.2) (w : (0 ≤ ((1677 + (3 * x4)) + 2) ∧ ((1677 + (3 * x4)) + 2) < 2819) ∧ (rg x6) ∧ (rg (h 99 ((1677 + (3 * x4)) + 2))) ∧ (if (h 99 ((1677 + (3 * x4)) + 2)) ≤ x6 then (G l (D + 1) 0 0 mX12_held (zz ζ) 166 [aP 97, aI x1, aI x2, aI x3, aI x4, aI x5, aI 0, aU] [] h (qI (zz ζ) Q)) else ((0 ≤ ((1707 + (40 * x4)) + x6) ∧ ((1707 + (40 * x4)) + x6) < 2819) ∧ (0 ≤ x6 ∧ x6 < 40) ∧ (rg x5) ∧ (if ¬ x5 = 0 then (G l (D + 1) 0 0 mX12_held (zz ζ) 82 [aP 97, aI x1, aI x2, aI x3, aI x4, aI 1, aI (x6 + 1), aU] [] (hu h 125 x6 (h 99 ((1707 + (40 * x4)) + x6))) (qI (zz ζ) Q)) else ((0 ≤ (17 + ((hu h 125 x6 (h 99 ((1707 + (40 * x4)) + x6))) 125 x6)) ∧ (17 + ((hu h 125 x6 (h 99 ((1707 + (40 * x4)) + x6))) 125 x6)) < 2819) ∧ (rg (h 99 (17 + ((hu h 125 x6 (h 99 ((1707 + (40 * x4)) + x6))) 125 x6)))) ∧ (rg x1) ∧ (if ¬ (h 99 (17 + ((hu h 125 x6 (h 99 ((1707 + (40 * x4)) + x6))) 125 x6))) = x1 then (G l (D + 1) 0 0 mX12_held (zz ζ) 82 [aP 97, aI x1, aI x2, aI x3, aI x4, aI 0, aI (x6 + 1), aU] [] (hu h 125 x6 (h 99 ((1707 + (40 * x4)) + x6))) (qI (zz ζ) Q)) else (G l (D + 1) 0 0 mX12_held (zz ζ) 82 [aP 97, aI x1, aI x2, aI x3, aI x4, aI 1, aI (x6 + 1), aU] [] (hu h 125 x6 (h 99 ((1707 + (40 * x4)) + x6))) (qI (zz ζ) Q)))))))) : G l (D + 1) 0 0 mX12_held (zz ζ) 82 [aP 97, aI x1, aI x2, aI x3, aI x4, aI x5, aI x6, aU] [] h (qI (zz ζ) Q) := by
  refine g_iload dX12_held_82 rfl ?_
  refine g_aload_n dX12_held_84 rfl ?_
  refine g_getR dX12_held_85 fl_X12_33 sh_97 (al_97 hn) (fun _ _ _ => rfl) rf_97_6 ?_
  refine g_sipush dX12_held_88 rfl ?_
  refine g_iconst dX12_held_91 ?_
  refine g_iload dX12_held_92 rfl ?_
  refine g_imul dX12_held_94 ?_
  refine g_iadd dX12_held_95 ?_
  refine g_iconst dX12_held_96 ?_
  refine g_iadd dX12_held_97 ?_
  obtain ⟨o1, w⟩ := w
  refine g_iald dX12_held_98 sh_99 (al_99 hn) (Nat.le_of_ble_eq_true rfl) o1 ?_
  obtain ⟨o2, w⟩ := w
  obtain ⟨o3, w⟩ := w
  refine g_cmp_ge (tgt := 163) dX12_held_99 rfl o2 o3 ?_
  refine ite_imp (fun w => ?_) (fun w => ?_) w
  · refine g_iconst dX12_held_163 ?_
    refine g_istore (ls' := [aP 97, aI x1, aI x2, aI x3, aI x4, aI x5, aI 0, aU]) dX12_held_164 (Nat.le_of_ble_eq_true rfl) rfl rfl ?_
    exact g_sub (ls' := [aP 97, aI x1, aI x2, aI x3, aI x4, aI x5, aI 0, aU]) ⟨Or.inr rfl, Or.inr rfl, Or.inr rfl, Or.inr rfl, Or.inr rfl, Or.inr rfl, Or.inr rfl, Or.inl rfl, trivial⟩ w
  · refine g_aload_n dX12_held_102 rfl ?_
    refine g_getR dX12_held_103 fl_X12_117 sh_97 (al_97 hn) (fun _ _ _ => rfl) rf_97_63 ?_
    refine g_iload dX12_held_106 rfl ?_
    refine g_aload_n dX12_held_108 rfl ?_
    refine g_getR dX12_held_109 fl_X12_33 sh_97 (al_97 hn) (fun _ _ _ => rfl) rf_97_6 ?_
    refine g_sipush dX12_held_112 rfl ?_
    refine g_bipush dX12_held_115 rfl ?_
    refine g_iload dX12_held_117 rfl ?_
    refine g_imul dX12_held_119 ?_
    refine g_iadd dX12_held_120 ?_
    refine g_iload dX12_held_121 rfl ?_
    refine g_iadd dX12_held_123 ?_
    obtain ⟨o4, w⟩ := w
    refine g_iald dX12_held_124 sh_99 (al_99 hn) (Nat.le_of_ble_eq_true rfl) o4 ?_
    obtain ⟨o5, w⟩ := w
    refine g_iast dX12_held_125 sh_125 (al_125 hn) (Nat.le_of_ble_eq_true rfl) o5 ?_
    refine g_iload dX12_held_126 rfl ?_
    obtain ⟨o6, w⟩ := w
    refine g_if_ne (tgt := 150) dX12_held_128 rfl o6 ?_
    refine ite_imp (fun w => ?_) (fun w => ?_) w
    · refine g_iconst dX12_held_150 ?_
      refine g_goto (tgt := 155) dX12_held_151 rfl ?_
      refine g_istore (ls' := [aP 97, aI x1, aI x2, aI x3, aI x4, aI 1, aI x6, aU]) dX12_held_155 (Nat.le_of_ble_eq_true rfl) rfl rfl ?_
      refine g_iinc (ls' := [aP 97, aI x1, aI x2, aI x3, aI x4, aI 1, aI (x6 + 1), aU]) dX12_held_157 rfl (Nat.le_of_ble_eq_true rfl) rfl rfl ?_
      refine g_goto (tgt := 82) dX12_held_160 rfl ?_
      exact g_sub (ls' := [aP 97, aI x1, aI x2, aI x3, aI x4, aI 1, aI (x6 + 1), aU]) ⟨Or.inr rfl, Or.inr rfl, Or.inr rfl, Or.inr rfl, Or.inr rfl, Or.inr rfl, Or.inr rfl, Or.inl rfl, trivial⟩ w
    · refine g_aload_n dX12_held_131 rfl ?_
      refine g_getR dX12_held_132 fl_X12_33 sh_97 (al_97 hn) (fun _ _ _ => rfl) rf_97_6 ?_
      refine g_bipush dX12_held_135 rfl ?_
      refine g_aload_n dX12_held_137 rfl ?_
      refine g_getR dX12_held_138 fl_X12_117 sh_97 (al_97 hn) (fun _ _ _ => rfl) rf_97_63 ?_
      refine g_iload dX12_held_141 rfl ?_
      refine g_iald dX12_held_143 sh_125 (al_125 hn) (Nat.le_of_ble_eq_true rfl) o5 ?_
      refine g_iadd dX12_held_144 ?_
      obtain ⟨o7, w⟩ := w
      refine g_iald dX12_held_145 sh_99 (al_99 hn) (Nat.le_of_ble_eq_true rfl) o7 ?_
      refine g_iload_n dX12_held_146 rfl ?_
      obtain ⟨o8, w⟩ := w
      obtain ⟨o9, w⟩ := w
      refine g_cmp_ne (tgt := 154) dX12_held_147 rfl o8 o9 ?_
      refine ite_imp (fun w => ?_) (fun w => ?_) w
      · refine g_iconst dX12_held_154 ?_
        refine g_istore (ls' := [aP 97, aI x1, aI x2, aI x3, aI x4, aI 0, aI x6, aU]) dX12_held_155 (Nat.le_of_ble_eq_true rfl) rfl rfl ?_
        refine g_iinc (ls' := [aP 97, aI x1, aI x2, aI x3, aI x4, aI 0, aI (x6 + 1), aU]) dX12_held_157 rfl (Nat.le_of_ble_eq_true rfl) rfl rfl ?_
        refine g_goto (tgt := 82) dX12_held_160 rfl ?_
        exact g_sub (ls' := [aP 97, aI x1, aI x2, aI x3, aI x4, aI 0, aI (x6 + 1), aU]) ⟨Or.inr rfl, Or.inr rfl, Or.inr rfl, Or.inr rfl, Or.inr rfl, Or.inr rfl, Or.inr rfl, Or.inl rfl, trivial⟩ w
      · refine g_iconst dX12_held_150 ?_
        refine g_goto (tgt := 155) dX12_held_151 rfl ?_
        refine g_istore (ls' := [aP 97, aI x1, aI x2, aI x3, aI x4, aI 1, aI x6, aU]) dX12_held_155 (Nat.le_of_ble_eq_true rfl) rfl rfl ?_
        refine g_iinc (ls' := [aP 97, aI x1, aI x2, aI x3, aI x4, aI 1, aI (x6 + 1), aU]) dX12_held_157 rfl (Nat.le_of_ble_eq_true rfl) rfl rfl ?_
        refine g_goto (tgt := 82) dX12_held_160 rfl ?_
        exact g_sub (ls' := [aP 97, aI x1, aI x2, aI x3, aI x4, aI 1, aI (x6 + 1), aU]) ⟨Or.inr rfl, Or.inr rfl, Or.inr rfl, Or.inr rfl, Or.inr rfl, Or.inr rfl, Or.inr rfl, Or.inl rfl, trivial⟩ w
theorem b_X12_held_166 {l : Launch} {D : Nat} {ζ : ZP} {h : HI} {Q : Int → HI → Prop} {x1 x2 x3 x4 x5 x6 : Int} (hn : 144 ≤ ζ.2.2.2.2) (w : (rg x6) ∧ (rg (h 99 15)) ∧ (if (h 99 15) ≤ x6 then (G l (D + 1) 0 0 mX12_held (zz ζ) 289 [aP 97, aI x1, aI x2, aI x3, aI x4, aI x5, aI 0, aI 0] [] h (qI (zz ζ) Q)) else ((0 ≤ (2507 + (4 * x6)) ∧ (2507 + (4 * x6)) < 2819) ∧ (rg (h 99 (2507 + (4 * x6)))) ∧ (rg x4) ∧ (if ¬ (h 99 (2507 + (4 * x6))) = x4 then (G l (D + 1) 0 0 mX12_held (zz ζ) 166 [aP 97, aI x1, aI x2, aI x3, aI x4, aI x5, aI (x6 + 1), aU] [] h (qI (zz ζ) Q)) else ((rg x2) ∧ (if x2 = (-1) then (G l (D + 1) 0 0 mX12_held (zz ζ) 221 [aP 97, aI x1, aI x2, aI x3, aI x4, aI x5, aI x6, aI (2507 + (4 * x6))] [] h (qI (zz ζ) Q)) else ((0 ≤ ((2507 + (4 * x6)) + 3) ∧ ((2507 + (4 * x6)) + 3) < 2819) ∧ (rg (h 99 ((2507 + (4 * x6)) + 3))) ∧ (if (h 99 ((2507 + (4 * x6)) + 3)) ≤ x2 then (G l (D + 1) 0 0 mX12_held (zz ζ) 221 [aP 97, aI x1, aI x2, aI x3, aI x4, aI x5, aI x6, aI (2507 + (4 * x6))] [] h (qI (zz ζ) Q)) else (G l (D + 1) 0 0 mX12_held (zz ζ) 166 [aP 97, aI x1, aI x2, aI x3, aI x4, aI x5, aI (x6 + 1), aU] [] h (qI (zz ζ) Q)))))))))) : G l (D + 1) 0 0 mX12_held (zz ζ) 166 [aP 97, aI x1, aI x2, aI x3, aI x4, aI x5, aI x6, aU] [] h (qI (zz ζ) Q) := by
  refine g_iload dX12_held_166 rfl ?_
  refine g_aload_n dX12_held_168 rfl ?_
  refine g_getR dX12_held_169 fl_X12_33 sh_97 (al_97 hn) (fun _ _ _ => rfl) rf_97_6 ?_
  refine g_bipush dX12_held_172 rfl ?_
  refine g_iald dX12_held_174 sh_99 (al_99 hn) (Nat.le_of_ble_eq_true rfl) (by decide) ?_
  obtain ⟨o1, w⟩ := w
  obtain ⟨o2, w⟩ := w
  refine g_cmp_ge (tgt := 283) dX12_held_175 rfl o1 o2 ?_
  refine ite_imp (fun w => ?_) (fun w => ?_) w
  · refine g_iconst dX12_held_283 ?_
    refine g_istore (ls' := [aP 97, aI x1, aI x2, aI x3, aI x4, aI x5, aI 0, aU]) dX12_held_284 (Nat.le_of_ble_eq_true rfl) rfl rfl ?_
    refine g_iconst dX12_held_286 ?_
    refine g_istore (ls' := [aP 97, aI x1, aI x2, aI x3, aI x4, aI x5, aI 0, aI 0]) dX12_held_287 (Nat.le_of_ble_eq_true rfl) rfl rfl ?_
    exact g_sub (ls' := [aP 97, aI x1, aI x2, aI x3, aI x4, aI x5, aI 0, aI 0]) ⟨Or.inr rfl, Or.inr rfl, Or.inr rfl, Or.inr rfl, Or.inr rfl, Or.inr rfl, Or.inr rfl, Or.inr rfl, trivial⟩ w
  · refine g_sipush dX12_held_178 rfl ?_
    refine g_iconst dX12_held_181 ?_
    refine g_iload dX12_held_182 rfl ?_
    refine g_imul dX12_held_184 ?_
    refine g_iadd dX12_held_185 ?_
    refine g_istore (ls' := [aP 97, aI x1, aI x2, aI x3, aI x4, aI x5, aI x6, aI (2507 + (4 * x6))]) dX12_held_186 (Nat.le_of_ble_eq_true rfl) rfl rfl ?_
    refine g_aload_n dX12_held_188 rfl ?_
    refine g_getR dX12_held_189 fl_X12_33 sh_97 (al_97 hn) (fun _ _ _ => rfl) rf_97_6 ?_
    refine g_iload dX12_held_192 rfl ?_
    obtain ⟨o3, w⟩ := w
    refine g_iald dX12_held_194 sh_99 (al_99 hn) (Nat.le_of_ble_eq_true rfl) o3 ?_
    refine g_iload dX12_held_195 rfl ?_
    obtain ⟨o4, w⟩ := w
    obtain ⟨o5, w⟩ := w
    refine g_cmp_ne (tgt := 277) dX12_held_197 rfl o4 o5 ?_
    refine ite_imp (fun w => ?_) (fun w => ?_) w
    · refine g_iinc (ls' := [aP 97, aI x1, aI x2, aI x3, aI x4, aI x5, aI (x6 + 1), aI (2507 + (4 * x6))]) dX12_held_277 rfl (Nat.le_of_ble_eq_true rfl) rfl rfl ?_
      refine g_goto (tgt := 166) dX12_held_280 rfl ?_
      exact g_sub (ls' := [aP 97, aI x1, aI x2, aI x3, aI x4, aI x5, aI (x6 + 1), aU]) ⟨Or.inr rfl, Or.inr rfl, Or.inr rfl, Or.inr rfl, Or.inr rfl, Or.inr rfl, Or.inr rfl, Or.inl rfl, trivial⟩ w
    · refine g_iload_n dX12_held_200 rfl ?_
      refine g_iconst dX12_held_201 ?_
      obtain ⟨o6, w⟩ := w
      refine g_cmp_eq (tgt := 221) dX12_held_202 rfl o6 (by decide) ?_
      refine ite_imp (fun w => ?_) (fun w => ?_) w
      · exact g_sub (ls' := [aP 97, aI x1, aI x2, aI x3, aI x4, aI x5, aI x6, aI (2507 + (4 * x6))]) ⟨Or.inr rfl, Or.inr rfl, Or.inr rfl, Or.inr rfl, Or.inr rfl, Or.inr rfl, Or.inr rfl, Or.inr rfl, trivial⟩ w
      · refine g_aload_n dX12_held_205 rfl ?_
        refine g_getR dX12_held_206 fl_X12_33 sh_97 (al_97 hn) (fun _ _ _ => rfl) rf_97_6 ?_
        refine g_iload dX12_held_209 rfl ?_
        refine g_iconst dX12_held_211 ?_
        refine g_iadd dX12_held_212 ?_
        obtain ⟨o7, w⟩ := w
        refine g_iald dX12_held_213 sh_99 (al_99 hn) (Nat.le_of_ble_eq_true rfl) o7 ?_
        refine g_iload_n dX12_held_214 rfl ?_
        obtain ⟨o8, w⟩ := w
        refine g_cmp_le (tgt := 221) dX12_held_215 rfl o8 o6 ?_
        refine ite_imp (fun w => ?_) (fun w => ?_) w
        · exact g_sub (ls' := [aP 97, aI x1, aI x2, aI x3, aI x4, aI x5, aI x6, aI (2507 + (4 * x6))]) ⟨Or.inr rfl, Or.inr rfl, Or.inr rfl, Or.inr rfl, Or.inr rfl, Or.inr rfl, Or.inr rfl, Or.inr rfl, trivial⟩ w
        · refine g_goto (tgt := 277) dX12_held_218 rfl ?_
          refine g_iinc (ls' := [aP 97, aI x1, aI x2, aI x3, aI x4, aI x5, aI (x6 + 1), aI (2507 + (4 * x6))]) dX12_held_277 rfl (Nat.le_of_ble_eq_true rfl) rfl rfl ?_
          refine g_goto (tgt := 166) dX12_held_280 rfl ?_
          exact g_sub (ls' := [aP 97, aI x1, aI x2, aI x3, aI x4, aI x5, aI (x6 + 1), aU]) ⟨Or.inr rfl, Or.inr rfl, Or.inr rfl, Or.inr rfl, Or.inr rfl, Or.inr rfl, Or.inr rfl, Or.inl rfl, trivial⟩ w
theorem b_X12_held_221 {l : Launch} {D : Nat} {ζ : ZP} {h : HI} {Q : Int → HI → Prop} {x1 x2 x3 x4 x5 x6 x7 : Int} (hn : 144 ≤ ζ.2.2.2.2) (w : (0 ≤ (x7 + 1) ∧ (x7 + 1) < 2819) ∧ (0 ≤ (x7 + 2) ∧ (x7 + 2) < 2819) ∧ (0 ≤ (h 99 (x7 + 1)) ∧ (h 99 (x7 + 1)) < 40) ∧ (rg x5) ∧ (if ¬ x5 = 0 then (G l (D + 1) 0 0 mX12_held (zz ζ) 166 [aP 97, aI x1, aI x2, aI x3, aI x4, aI 1, aI (x6 + 1), aU] [] (hu h 125 (h 99 (x7 + 1)) (h 99 (x7 + 2))) (qI (zz ζ) Q)) else ((0 ≤ (17 + (h 99 (x7 + 2))) ∧ (17 + (h 99 (x7 + 2))) < 2819) ∧ (rg (h 99 (17 + (h 99 (x7 + 2))))) ∧ (rg x1) ∧ (if ¬ (h 99 (17 + (h 99 (x7 + 2)))) = x1 then (G l (D + 1) 0 0 mX12_held (zz ζ) 166 [aP 97, aI x1, aI x2, aI x3, aI x4, aI 0, aI (x6 + 1), aU] [] (hu h 125 (h 99 (x7 + 1)) (h 99 (x7 + 2))) (qI (zz ζ) Q)) else (G l (D + 1) 0 0 mX12_held (zz ζ) 166 [aP 97, aI x1, aI x2, aI x3, aI x4, aI 1, aI (x6 + 1), aU] [] (hu h 125 (h 99 (x7 + 1)) (h 99 (x7 + 2))) (qI (zz ζ) Q)))))) : G l (D + 1) 0 0 mX12_held (zz ζ) 221 [aP 97, aI x1, aI x2, aI x3, aI x4, aI x5, aI x6, aI x7] [] h (qI (zz ζ) Q) := by
  refine g_aload_n dX12_held_221 rfl ?_
  refine g_getR dX12_held_222 fl_X12_117 sh_97 (al_97 hn) (fun _ _ _ => rfl) rf_97_63 ?_
  refine g_aload_n dX12_held_225 rfl ?_
  refine g_getR dX12_held_226 fl_X12_33 sh_97 (al_97 hn) (fun _ _ _ => rfl) rf_97_6 ?_
  refine g_iload dX12_held_229 rfl ?_
  refine g_iconst dX12_held_231 ?_
  refine g_iadd dX12_held_232 ?_
  obtain ⟨o1, w⟩ := w
  refine g_iald dX12_held_233 sh_99 (al_99 hn) (Nat.le_of_ble_eq_true rfl) o1 ?_
  refine g_aload_n dX12_held_234 rfl ?_
  refine g_getR dX12_held_235 fl_X12_33 sh_97 (al_97 hn) (fun _ _ _ => rfl) rf_97_6 ?_
  refine g_iload dX12_held_238 rfl ?_
  refine g_iconst dX12_held_240 ?_
  refine g_iadd dX12_held_241 ?_
  obtain ⟨o2, w⟩ := w
  refine g_iald dX12_held_242 sh_99 (al_99 hn) (Nat.le_of_ble_eq_true rfl) o2 ?_
  obtain ⟨o3, w⟩ := w
  refine g_iast dX12_held_243 sh_125 (al_125 hn) (Nat.le_of_ble_eq_true rfl) o3 ?_
  refine g_iload dX12_held_244 rfl ?_
  obtain ⟨o4, w⟩ := w
  refine g_if_ne (tgt := 270) dX12_held_246 rfl o4 ?_
  refine ite_imp (fun w => ?_) (fun w => ?_) w
  · refine g_iconst dX12_held_270 ?_
    refine g_goto (tgt := 275) dX12_held_271 rfl ?_
    refine g_istore (ls' := [aP 97, aI x1, aI x2, aI x3, aI x4, aI 1, aI x6, aI x7]) dX12_held_275 (Nat.le_of_ble_eq_true rfl) rfl rfl ?_
    refine g_iinc (ls' := [aP 97, aI x1, aI x2, aI x3, aI x4, aI 1, aI (x6 + 1), aI x7]) dX12_held_277 rfl (Nat.le_of_ble_eq_true rfl) rfl rfl ?_
    refine g_goto (tgt := 166) dX12_held_280 rfl ?_
    exact g_sub (ls' := [aP 97, aI x1, aI x2, aI x3, aI x4, aI 1, aI (x6 + 1), aU]) ⟨Or.inr rfl, Or.inr rfl, Or.inr rfl, Or.inr rfl, Or.inr rfl, Or.inr rfl, Or.inr rfl, Or.inl rfl, trivial⟩ w
  · refine g_aload_n dX12_held_249 rfl ?_
    refine g_getR dX12_held_250 fl_X12_33 sh_97 (al_97 hn) (fun _ _ _ => rfl) rf_97_6 ?_
    refine g_bipush dX12_held_253 rfl ?_
    refine g_aload_n dX12_held_255 rfl ?_
    refine g_getR dX12_held_256 fl_X12_33 sh_97 (al_97 hn) (fun _ _ _ => rfl) rf_97_6 ?_
    refine g_iload dX12_held_259 rfl ?_
    refine g_iconst dX12_held_261 ?_
    refine g_iadd dX12_held_262 ?_
    refine g_iald dX12_held_263 sh_99 (al_99 hn) (Nat.le_of_ble_eq_true rfl) o2 ?_
    refine g_iadd dX12_held_264 ?_
    obtain ⟨o5, w⟩ := w
    refine g_iald dX12_held_265 sh_99 (al_99 hn) (Nat.le_of_ble_eq_true rfl) o5 ?_
    refine g_iload_n dX12_held_266 rfl ?_
    obtain ⟨o6, w⟩ := w
    obtain ⟨o7, w⟩ := w
    refine g_cmp_ne (tgt := 274) dX12_held_267 rfl o6 o7 ?_
    refine ite_imp (fun w => ?_) (fun w => ?_) w
    · refine g_iconst dX12_held_274 ?_
      refine g_istore (ls' := [aP 97, aI x1, aI x2, aI x3, aI x4, aI 0, aI x6, aI x7]) dX12_held_275 (Nat.le_of_ble_eq_true rfl) rfl rfl ?_
      refine g_iinc (ls' := [aP 97, aI x1, aI x2, aI x3, aI x4, aI 0, aI (x6 + 1), aI x7]) dX12_held_277 rfl (Nat.le_of_ble_eq_true rfl) rfl rfl ?_
      refine g_goto (tgt := 166) dX12_held_280 rfl ?_
      exact g_sub (ls' := [aP 97, aI x1, aI x2, aI x3, aI x4, aI 0, aI (x6 + 1), aU]) ⟨Or.inr rfl, Or.inr rfl, Or.inr rfl, Or.inr rfl, Or.inr rfl, Or.inr rfl, Or.inr rfl, Or.inl rfl, trivial⟩ w
    · refine g_iconst dX12_held_270 ?_
      refine g_goto (tgt := 275) dX12_held_271 rfl ?_
      refine g_istore (ls' := [aP 97, aI x1, aI x2, aI x3, aI x4, aI 1, aI x6, aI x7]) dX12_held_275 (Nat.le_of_ble_eq_true rfl) rfl rfl ?_
      refine g_iinc (ls' := [aP 97, aI x1, aI x2, aI x3, aI x4, aI 1, aI (x6 + 1), aI x7]) dX12_held_277 rfl (Nat.le_of_ble_eq_true rfl) rfl rfl ?_
      refine g_goto (tgt := 166) dX12_held_280 rfl ?_
      exact g_sub (ls' := [aP 97, aI x1, aI x2, aI x3, aI x4, aI 1, aI (x6 + 1), aU]) ⟨Or.inr rfl, Or.inr rfl, Or.inr rfl, Or.inr rfl, Or.inr rfl, Or.inr rfl, Or.inr rfl, Or.inl rfl, trivial⟩ w
theorem b_X12_held_289 {l : Launch} {D : Nat} {ζ : ZP} {h : HI} {Q : Int → HI → Prop} {x1 x2 x3 x4 x5 x6 x7 : Int} (hn : 144 ≤ ζ.2.2.2.2) (w : (0 ≤ ((1677 + (3 * x4)) + 2) ∧ ((1677 + (3 * x4)) + 2) < 2819) ∧ (rg x7) ∧ (rg (h 99 ((1677 + (3 * x4)) + 2))) ∧ (if (h 99 ((1677 + (3 * x4)) + 2)) ≤ x7 then ((rg x2) ∧ (if ¬ x2 = (-1) then ((rg x6) ∧ (if x6 = 0 then (G l (D + 1) 0 0 mX12_held (zz ζ) 39 [aP 97, aI x1, aI x2, aI (bor x3 0), aI (x4 + 1), aU, aU, aU] [] h (qI (zz ζ) Q)) else (G l (D + 1) 0 0 mX12_held (zz ζ) 39 [aP 97, aI x1, aI x2, aI (bor x3 (bshl 1 x4)), aI (x4 + 1), aU, aU, aU] [] h (qI (zz ζ) Q)))) else ((rg x5) ∧ (if x5 = 0 then (G l (D + 1) 0 0 mX12_held (zz ζ) 39 [aP 97, aI x1, aI x2, aI (bor x3 0), aI (x4 + 1), aU, aU, aU] [] h (qI (zz ζ) Q)) else (G l (D + 1) 0 0 mX12_held (zz ζ) 39 [aP 97, aI x1, aI x2, aI (bor x3 (bshl 1 x4)), aI (x4 + 1), aU, aU, aU] [] h (qI (zz ζ) Q)))))) else ((rg x6) ∧ (if ¬ x6 = 0 then (G l (D + 1) 0 0 mX12_held (zz ζ) 289 [aP 97, aI x1, aI x2, aI x3, aI x4, aI x5, aI 1, aI (x7 + 1)] [] h (qI (zz ζ) Q)) else ((0 ≤ x7 ∧ x7 < 40) ∧ (0 ≤ (17 + (h 125 x7)) ∧ (17 + (h 125 x7)) < 2819) ∧ (rg (h 99 (17 + (h 125 x7)))) ∧ (rg x1) ∧ (if ¬ (h 99 (17 + (h 125 x7))) = x1 then (G l (D + 1) 0 0 mX12_held (zz ζ) 289 [aP 97, aI x1, aI x2, aI x3, aI x4, aI x5, aI 0, aI (x7 + 1)] [] h (qI (zz ζ) Q)) else (G l (D + 1) 0 0 mX12_held (zz ζ) 289 [aP 97, aI x1, aI x2, aI x3, aI x4, aI x5, aI 1, aI (x7 + 1)] [] h (qI (zz ζ) Q)))))))) : G l (D + 1) 0 0 mX12_held (zz ζ) 289 [aP 97, aI x1, aI x2, aI x3, aI x4, aI x5, aI x6, aI x7] [] h (qI (zz ζ) Q) := by
  refine g_iload dX12_held_289 rfl ?_
  refine g_aload_n dX12_held_291 rfl ?_
  refine g_getR dX12_held_292 fl_X12_33 sh_97 (al_97 hn) (fun _ _ _ => rfl) rf_97_6 ?_
  refine g_sipush dX12_held_295 rfl ?_
  refine g_iconst dX12_held_298 ?_
  refine g_iload dX12_held_299 rfl ?_
  refine g_imul dX12_held_301 ?_
  refine g_iadd dX12_held_302 ?_
  refine g_iconst dX12_held_303 ?_
  refine g_iadd dX12_held_304 ?_
  obtain ⟨o1, w⟩ := w
  refine g_iald dX12_held_305 sh_99 (al_99 hn) (Nat.le_of_ble_eq_true rfl) o1 ?_
  obtain ⟨o2, w⟩ := w
  obtain ⟨o3, w⟩ := w
  refine g_cmp_ge (tgt := 346) dX12_held_306 rfl o2 o3 ?_
  refine ite_imp (fun w => ?_) (fun w => ?_) w
  · refine g_iload_n dX12_held_346 rfl ?_
    refine g_iload_n dX12_held_347 rfl ?_
    refine g_iconst dX12_held_348 ?_
    obtain ⟨o4, w⟩ := w
    refine g_cmp_ne (tgt := 360) dX12_held_349 rfl o4 (by decide) ?_
    refine ite_imp (fun w => ?_) (fun w => ?_) w
    · refine g_iload dX12_held_360 rfl ?_
      obtain ⟨o5, w⟩ := w
      refine g_if_eq (tgt := 372) dX12_held_362 rfl o5 ?_
      refine ite_imp (fun w => ?_) (fun w => ?_) w
      · refine g_iconst dX12_held_372 ?_
        refine g_ior dX12_held_373 ?_
        refine g_istore_n (ls' := [aP 97, aI x1, aI x2, aI (bor x3 0), aI x4, aI x5, aI x6, aI x7]) dX12_held_374 (Nat.le_of_ble_eq_true rfl) rfl rfl ?_
        refine g_iinc (ls' := [aP 97, aI x1, aI x2, aI (bor x3 0), aI (x4 + 1), aI x5, aI x6, aI x7]) dX12_held_375 rfl (Nat.le_of_ble_eq_true rfl) rfl rfl ?_
        refine g_goto (tgt := 39) dX12_held_378 rfl ?_
        exact g_sub (ls' := [aP 97, aI x1, aI x2, aI (bor x3 0), aI (x4 + 1), aU, aU, aU]) ⟨Or.inr rfl, Or.inr rfl, Or.inr rfl, Or.inr rfl, Or.inr rfl, Or.inl rfl, Or.inl rfl, Or.inl rfl, trivial⟩ w
      · refine g_iconst dX12_held_365 ?_
        refine g_iload dX12_held_366 rfl ?_
        refine g_ishl dX12_held_368 ?_
        refine g_goto (tgt := 373) dX12_held_369 rfl ?_
        refine g_ior dX12_held_373 ?_
        refine g_istore_n (ls' := [aP 97, aI x1, aI x2, aI (bor x3 (bshl 1 x4)), aI x4, aI x5, aI x6, aI x7]) dX12_held_374 (Nat.le_of_ble_eq_true rfl) rfl rfl ?_
        refine g_iinc (ls' := [aP 97, aI x1, aI x2, aI (bor x3 (bshl 1 x4)), aI (x4 + 1), aI x5, aI x6, aI x7]) dX12_held_375 rfl (Nat.le_of_ble_eq_true rfl) rfl rfl ?_
        refine g_goto (tgt := 39) dX12_held_378 rfl ?_
        exact g_sub (ls' := [aP 97, aI x1, aI x2, aI (bor x3 (bshl 1 x4)), aI (x4 + 1), aU, aU, aU]) ⟨Or.inr rfl, Or.inr rfl, Or.inr rfl, Or.inr rfl, Or.inr rfl, Or.inl rfl, Or.inl rfl, Or.inl rfl, trivial⟩ w
    · refine g_iload dX12_held_352 rfl ?_
      obtain ⟨o6, w⟩ := w
      refine g_if_eq (tgt := 372) dX12_held_354 rfl o6 ?_
      refine ite_imp (fun w => ?_) (fun w => ?_) w
      · refine g_iconst dX12_held_372 ?_
        refine g_ior dX12_held_373 ?_
        refine g_istore_n (ls' := [aP 97, aI x1, aI x2, aI (bor x3 0), aI x4, aI x5, aI x6, aI x7]) dX12_held_374 (Nat.le_of_ble_eq_true rfl) rfl rfl ?_
        refine g_iinc (ls' := [aP 97, aI x1, aI x2, aI (bor x3 0), aI (x4 + 1), aI x5, aI x6, aI x7]) dX12_held_375 rfl (Nat.le_of_ble_eq_true rfl) rfl rfl ?_
        refine g_goto (tgt := 39) dX12_held_378 rfl ?_
        exact g_sub (ls' := [aP 97, aI x1, aI x2, aI (bor x3 0), aI (x4 + 1), aU, aU, aU]) ⟨Or.inr rfl, Or.inr rfl, Or.inr rfl, Or.inr rfl, Or.inr rfl, Or.inl rfl, Or.inl rfl, Or.inl rfl, trivial⟩ w
      · refine g_goto (tgt := 365) dX12_held_357 rfl ?_
        refine g_iconst dX12_held_365 ?_
        refine g_iload dX12_held_366 rfl ?_
        refine g_ishl dX12_held_368 ?_
        refine g_goto (tgt := 373) dX12_held_369 rfl ?_
        refine g_ior dX12_held_373 ?_
        refine g_istore_n (ls' := [aP 97, aI x1, aI x2, aI (bor x3 (bshl 1 x4)), aI x4, aI x5, aI x6, aI x7]) dX12_held_374 (Nat.le_of_ble_eq_true rfl) rfl rfl ?_
        refine g_iinc (ls' := [aP 97, aI x1, aI x2, aI (bor x3 (bshl 1 x4)), aI (x4 + 1), aI x5, aI x6, aI x7]) dX12_held_375 rfl (Nat.le_of_ble_eq_true rfl) rfl rfl ?_
        refine g_goto (tgt := 39) dX12_held_378 rfl ?_
        exact g_sub (ls' := [aP 97, aI x1, aI x2, aI (bor x3 (bshl 1 x4)), aI (x4 + 1), aU, aU, aU]) ⟨Or.inr rfl, Or.inr rfl, Or.inr rfl, Or.inr rfl, Or.inr rfl, Or.inl rfl, Or.inl rfl, Or.inl rfl, trivial⟩ w
  · refine g_iload dX12_held_309 rfl ?_
    obtain ⟨o7, w⟩ := w
    refine g_if_ne (tgt := 333) dX12_held_311 rfl o7 ?_
    refine ite_imp (fun w => ?_) (fun w => ?_) w
    · refine g_iconst dX12_held_333 ?_
      refine g_goto (tgt := 338) dX12_held_334 rfl ?_
      refine g_istore (ls' := [aP 97, aI x1, aI x2, aI x3, aI x4, aI x5, aI 1, aI x7]) dX12_held_338 (Nat.le_of_ble_eq_true rfl) rfl rfl ?_
      refine g_iinc (ls' := [aP 97, aI x1, aI x2, aI x3, aI x4, aI x5, aI 1, aI (x7 + 1)]) dX12_held_340 rfl (Nat.le_of_ble_eq_true rfl) rfl rfl ?_
      refine g_goto (tgt := 289) dX12_held_343 rfl ?_
      exact g_sub (ls' := [aP 97, aI x1, aI x2, aI x3, aI x4, aI x5, aI 1, aI (x7 + 1)]) ⟨Or.inr rfl, Or.inr rfl, Or.inr rfl, Or.inr rfl, Or.inr rfl, Or.inr rfl, Or.inr rfl, Or.inr rfl, trivial⟩ w
    · refine g_aload_n dX12_held_314 rfl ?_
      refine g_getR dX12_held_315 fl_X12_33 sh_97 (al_97 hn) (fun _ _ _ => rfl) rf_97_6 ?_
      refine g_bipush dX12_held_318 rfl ?_
      refine g_aload_n dX12_held_320 rfl ?_
      refine g_getR dX12_held_321 fl_X12_117 sh_97 (al_97 hn) (fun _ _ _ => rfl) rf_97_63 ?_
      refine g_iload dX12_held_324 rfl ?_
      obtain ⟨o8, w⟩ := w
      refine g_iald dX12_held_326 sh_125 (al_125 hn) (Nat.le_of_ble_eq_true rfl) o8 ?_
      refine g_iadd dX12_held_327 ?_
      obtain ⟨o9, w⟩ := w
      refine g_iald dX12_held_328 sh_99 (al_99 hn) (Nat.le_of_ble_eq_true rfl) o9 ?_
      refine g_iload_n dX12_held_329 rfl ?_
      obtain ⟨o10, w⟩ := w
      obtain ⟨o11, w⟩ := w
      refine g_cmp_ne (tgt := 337) dX12_held_330 rfl o10 o11 ?_
      refine ite_imp (fun w => ?_) (fun w => ?_) w
      · refine g_iconst dX12_held_337 ?_
        refine g_istore (ls' := [aP 97, aI x1, aI x2, aI x3, aI x4, aI x5, aI 0, aI x7]) dX12_held_338 (Nat.le_of_ble_eq_true rfl) rfl rfl ?_
        refine g_iinc (ls' := [aP 97, aI x1, aI x2, aI x3, aI x4, aI x5, aI 0, aI (x7 + 1)]) dX12_held_340 rfl (Nat.le_of_ble_eq_true rfl) rfl rfl ?_
        refine g_goto (tgt := 289) dX12_held_343 rfl ?_
        exact g_sub (ls' := [aP 97, aI x1, aI x2, aI x3, aI x4, aI x5, aI 0, aI (x7 + 1)]) ⟨Or.inr rfl, Or.inr rfl, Or.inr rfl, Or.inr rfl, Or.inr rfl, Or.inr rfl, Or.inr rfl, Or.inr rfl, trivial⟩ w
      · refine g_iconst dX12_held_333 ?_
        refine g_goto (tgt := 338) dX12_held_334 rfl ?_
        refine g_istore (ls' := [aP 97, aI x1, aI x2, aI x3, aI x4, aI x5, aI 1, aI x7]) dX12_held_338 (Nat.le_of_ble_eq_true rfl) rfl rfl ?_
        refine g_iinc (ls' := [aP 97, aI x1, aI x2, aI x3, aI x4, aI x5, aI 1, aI (x7 + 1)]) dX12_held_340 rfl (Nat.le_of_ble_eq_true rfl) rfl rfl ?_
        refine g_goto (tgt := 289) dX12_held_343 rfl ?_
        exact g_sub (ls' := [aP 97, aI x1, aI x2, aI x3, aI x4, aI x5, aI 1, aI (x7 + 1)]) ⟨Or.inr rfl, Or.inr rfl, Or.inr rfl, Or.inr rfl, Or.inr rfl, Or.inr rfl, Or.inr rfl, Or.inr rfl, trivial⟩ w
theorem e_X12_held {l : Launch} {D : Nat} {ζ : ZP} {h : HI} {Q : Int → HI → Prop} {x1 x2 : Int} (hn : 144 ≤ ζ.2.2.2.2) (w : RtI l D mX12_isIn (zz ζ) [aI x1, aI 0, aI ((h 99 1) - 1)] (hu h 97 0 0) (fun r1 h1 => (rg r1) ∧ (if r1 = 0 then (Q (-1) h1) else (RtI l D mX12_isIn (zz ζ) [aI x2, aI (-1), aI 999] h1 (fun r2 h2 => (rg r2) ∧ (if ¬ r2 = 0 then (G l (D + 1) 0 0 mX12_held (zz ζ) 39 [aP 97, aI x1, aI x2, aI 0, aI 0, aU, aU, aU] [] h2 (qI (zz ζ) Q)) else (Q (-1) h2))))))) : RtI l (D + 1) mX12_held (zz ζ) [aP 97, aI x1, aI x2] h Q := by
  refine RtI.of 5 pn_X12 [aP 97, aI x1, aI x2, aU, aU, aU, aU, aU] rfl rfl ?_
  refine g_aload_n dX12_held_0 rfl ?_
  refine g_iconst dX12_held_1 ?_
  refine g_putI (J := 0) dX12_held_2 fl_X12_1 sh_97 (al_97 hn) rfl rfl ?_
  refine g_iload_n dX12_held_5 rfl ?_
  refine g_iconst dX12_held_6 ?_
  refine g_aload_n dX12_held_7 rfl ?_
  refine g_getR dX12_held_8 fl_X12_33 sh_97 (al_97 hn) (fun _ _ _ => rfl) rf_97_6 ?_
  refine g_iconst dX12_held_11 ?_
  refine g_iald dX12_held_12 sh_99 (al_99 hn) (Nat.le_of_ble_eq_true rfl) (by decide) ?_
  refine g_iconst dX12_held_13 ?_
  refine g_isub dX12_held_14 ?_
  refine g_callSI (n := 3) (As := [aI x1, aI 0, aI ((h 99 1) - 1)]) (st := []) dX12_held_15 ml_X12_262 rfl rfl (Nat.le_of_ble_eq_true rfl) rfl (RtI.mono w (fun r1 h1 w => ?_))
  obtain ⟨o1, w⟩ := w
  refine g_if_eq (tgt := 32) dX12_held_18 rfl o1 ?_
  refine ite_imp (fun w => ?_) (fun w => ?_) w
  · refine g_iconst dX12_held_32 ?_
    exact g_retI dX12_held_33 rfl w
  · refine g_iload_n dX12_held_21 rfl ?_
    refine g_iconst dX12_held_22 ?_
    refine g_sipush dX12_held_23 rfl ?_
    refine g_callSI (n := 3) (As := [aI x2, aI (-1), aI 999]) (st := []) dX12_held_26 ml_X12_262 rfl rfl (Nat.le_of_ble_eq_true rfl) rfl (RtI.mono w (fun r2 h2 w => ?_))
    obtain ⟨o2, w⟩ := w
    refine g_if_ne (tgt := 34) dX12_held_29 rfl o2 ?_
    refine ite_imp (fun w => ?_) (fun w => ?_) w
    · refine g_iconst dX12_held_34 ?_
      refine g_istore_n (ls' := [aP 97, aI x1, aI x2, aI 0, aU, aU, aU, aU]) dX12_held_35 (Nat.le_of_ble_eq_true rfl) rfl rfl ?_
      refine g_iconst dX12_held_36 ?_
      refine g_istore (ls' := [aP 97, aI x1, aI x2, aI 0, aI 0, aU, aU, aU]) dX12_held_37 (Nat.le_of_ble_eq_true rfl) rfl rfl ?_
      exact g_sub (ls' := [aP 97, aI x1, aI x2, aI 0, aI 0, aU, aU, aU]) ⟨Or.inr rfl, Or.inr rfl, Or.inr rfl, Or.inr rfl, Or.inr rfl, Or.inl rfl, Or.inl rfl, Or.inl rfl, trivial⟩ w
    · refine g_iconst dX12_held_32 ?_
      exact g_retI dX12_held_33 rfl w
theorem e_X12_node {l : Launch} {D : Nat} {ζ : ZP} {h : HI} {Q : Int → HI → Prop} (hn : 144 ≤ ζ.2.2.2.2) (w : (rg (h 97 10)) ∧ (if (h 97 10) = 2 then ((rg (h 97 13)) ∧ (if (h 97 13) ≤ 59 then (RtV l D mX12_next (zz ζ) [aP 97] h (fun h1 => RtI l D mX12_isSign (zz ζ) [aP 97, aI 43] h1 (fun r2 h2 => (rg r2) ∧ (if ¬ r2 = 0 then (RtI l D mX12_isSign (zz ζ) [aP 97, aI 43] h2 (fun r3 h3 => (rg r3) ∧ (if r3 = 0 then (RtV l D mX12_next (zz ζ) [aP 97] (hu h3 97 17 ((2 * (h 97 13)) + 0)) (fun h4 => Q 1 h4)) else (RtV l D mX12_next (zz ζ) [aP 97] (hu h3 97 17 ((2 * (h 97 13)) + 1)) (fun h5 => Q 1 h5))))) else (RtI l D mX12_isSign (zz ζ) [aP 97, aI 45] h2 (fun r6 h6 => (rg r6) ∧ (if ¬ r6 = 0 then (RtI l D mX12_isSign (zz ζ) [aP 97, aI 43] h6 (fun r7 h7 => (rg r7) ∧ (if r7 = 0 then (RtV l D mX12_next (zz ζ) [aP 97] (hu h7 97 17 ((2 * (h 97 13)) + 0)) (fun h8 => Q 1 h8)) else (RtV l D mX12_next (zz ζ) [aP 97] (hu h7 97 17 ((2 * (h 97 13)) + 1)) (fun h9 => Q 1 h9))))) else (RtI l D mX12_bad (zz ζ) [aP 97, aI 1] h6 (fun r10 h10 => (r10 = 0 ∨ r10 = 1) ∧ Q r10 h10))))))))) else (RtI l D mX12_bad (zz ζ) [aP 97, aI 2] h (fun r11 h11 => (r11 = 0 ∨ r11 = 1) ∧ Q r11 h11)))) else (RtI l D mX12_bad (zz ζ) [aP 97, aI 1] h (fun r12 h12 => (r12 = 0 ∨ r12 = 1) ∧ Q r12 h12)))) : RtI l (D + 1) mX12_node (zz ζ) [aP 97] h Q := by
  refine RtI.of 1 pn_X12 [aP 97, aU] rfl rfl ?_
  refine g_aload_n dX12_node_0 rfl ?_
  refine g_getI (J := 10) dX12_node_1 fl_X12_230 sh_97 (al_97 hn) (fun _ _ _ => rfl) rfl ?_
  refine g_iconst dX12_node_4 ?_
  obtain ⟨o1, w⟩ := w
  refine g_cmp_eq (tgt := 14) dX12_node_5 rfl o1 (by decide) ?_
  refine ite_imp (fun w => ?_) (fun w => ?_) w
  · refine g_aload_n dX12_node_14 rfl ?_
    refine g_getI (J := 13) dX12_node_15 fl_X12_240 sh_97 (al_97 hn) (fun _ _ _ => rfl) rfl ?_
    refine g_bipush dX12_node_18 rfl ?_
    obtain ⟨o2, w⟩ := w
    refine g_cmp_le (tgt := 29) dX12_node_20 rfl o2 (by decide) ?_
    refine ite_imp (fun w => ?_) (fun w => ?_) w
    · refine g_aload_n dX12_node_29 rfl ?_
      refine g_getI (J := 13) dX12_node_30 fl_X12_240 sh_97 (al_97 hn) (fun _ _ _ => rfl) rfl ?_
      refine g_istore_n (ls' := [aP 97, aI (h 97 13)]) dX12_node_33 (Nat.le_of_ble_eq_true rfl) rfl rfl ?_
      refine g_aload_n dX12_node_34 rfl ?_
      refine g_callVV (n := 0) (As := []) (st := []) dX12_node_35 ml_X12_259 sh_97 rfl (al_97 hn) rfl rfl (Nat.le_of_ble_eq_true rfl) (RtV.mono w (fun h1 w => ?_))
      refine g_aload_n dX12_node_38 rfl ?_
      refine g_bipush dX12_node_39 rfl ?_
      refine g_callVI (n := 1) (As := [aI 43]) (st := []) dX12_node_41 ml_X12_253 sh_97 rfl (al_97 hn) rfl rfl (Nat.le_of_ble_eq_true rfl) (RtI.mono w (fun r2 h2 w => ?_))
      obtain ⟨o3, w⟩ := w
      refine g_if_ne (tgt := 62) dX12_node_44 rfl o3 ?_
      refine ite_imp (fun w => ?_) (fun w => ?_) w
      · refine g_aload_n dX12_node_62 rfl ?_
        refine g_iconst dX12_node_63 ?_
        refine g_iload_n dX12_node_64 rfl ?_
        refine g_imul dX12_node_65 ?_
        refine g_aload_n dX12_node_66 rfl ?_
        refine g_bipush dX12_node_67 rfl ?_
        refine g_callVI (n := 1) (As := [aI 43]) (st := [aI (2 * (h 97 13)), aP 97]) dX12_node_69 ml_X12_253 sh_97 rfl (al_97 hn) rfl rfl (Nat.le_of_ble_eq_true rfl) (RtI.mono w (fun r3 h3 w => ?_))
        obtain ⟨o4, w⟩ := w
        refine g_if_eq (tgt := 79) dX12_node_72 rfl o4 ?_
        refine ite_imp (fun w => ?_) (fun w => ?_) w
        · refine g_iconst dX12_node_79 ?_
          refine g_iadd dX12_node_80 ?_
          refine g_putI (J := 17) dX12_node_81 fl_X12_266 sh_97 (al_97 hn) rfl rfl ?_
          refine g_aload_n dX12_node_84 rfl ?_
          refine g_callVV (n := 0) (As := []) (st := []) dX12_node_85 ml_X12_259 sh_97 rfl (al_97 hn) rfl rfl (Nat.le_of_ble_eq_true rfl) (RtV.mono w (fun h4 w => ?_))
          refine g_iconst dX12_node_88 ?_
          exact g_retZ dX12_node_89 rfl (Or.inr rfl) w
        · refine g_iconst dX12_node_75 ?_
          refine g_goto (tgt := 80) dX12_node_76 rfl ?_
          refine g_iadd dX12_node_80 ?_
          refine g_putI (J := 17) dX12_node_81 fl_X12_266 sh_97 (al_97 hn) rfl rfl ?_
          refine g_aload_n dX12_node_84 rfl ?_
          refine g_callVV (n := 0) (As := []) (st := []) dX12_node_85 ml_X12_259 sh_97 rfl (al_97 hn) rfl rfl (Nat.le_of_ble_eq_true rfl) (RtV.mono w (fun h5 w => ?_))
          refine g_iconst dX12_node_88 ?_
          exact g_retZ dX12_node_89 rfl (Or.inr rfl) w
      · refine g_aload_n dX12_node_47 rfl ?_
        refine g_bipush dX12_node_48 rfl ?_
        refine g_callVI (n := 1) (As := [aI 45]) (st := []) dX12_node_50 ml_X12_253 sh_97 rfl (al_97 hn) rfl rfl (Nat.le_of_ble_eq_true rfl) (RtI.mono w (fun r6 h6 w => ?_))
        obtain ⟨o5, w⟩ := w
        refine g_if_ne (tgt := 62) dX12_node_53 rfl o5 ?_
        refine ite_imp (fun w => ?_) (fun w => ?_) w
        · refine g_aload_n dX12_node_62 rfl ?_
          refine g_iconst dX12_node_63 ?_
          refine g_iload_n dX12_node_64 rfl ?_
          refine g_imul dX12_node_65 ?_
          refine g_aload_n dX12_node_66 rfl ?_
          refine g_bipush dX12_node_67 rfl ?_
          refine g_callVI (n := 1) (As := [aI 43]) (st := [aI (2 * (h 97 13)), aP 97]) dX12_node_69 ml_X12_253 sh_97 rfl (al_97 hn) rfl rfl (Nat.le_of_ble_eq_true rfl) (RtI.mono w (fun r7 h7 w => ?_))
          obtain ⟨o6, w⟩ := w
          refine g_if_eq (tgt := 79) dX12_node_72 rfl o6 ?_
          refine ite_imp (fun w => ?_) (fun w => ?_) w
          · refine g_iconst dX12_node_79 ?_
            refine g_iadd dX12_node_80 ?_
            refine g_putI (J := 17) dX12_node_81 fl_X12_266 sh_97 (al_97 hn) rfl rfl ?_
            refine g_aload_n dX12_node_84 rfl ?_
            refine g_callVV (n := 0) (As := []) (st := []) dX12_node_85 ml_X12_259 sh_97 rfl (al_97 hn) rfl rfl (Nat.le_of_ble_eq_true rfl) (RtV.mono w (fun h8 w => ?_))
            refine g_iconst dX12_node_88 ?_
            exact g_retZ dX12_node_89 rfl (Or.inr rfl) w
          · refine g_iconst dX12_node_75 ?_
            refine g_goto (tgt := 80) dX12_node_76 rfl ?_
            refine g_iadd dX12_node_80 ?_
            refine g_putI (J := 17) dX12_node_81 fl_X12_266 sh_97 (al_97 hn) rfl rfl ?_
            refine g_aload_n dX12_node_84 rfl ?_
            refine g_callVV (n := 0) (As := []) (st := []) dX12_node_85 ml_X12_259 sh_97 rfl (al_97 hn) rfl rfl (Nat.le_of_ble_eq_true rfl) (RtV.mono w (fun h9 w => ?_))
            refine g_iconst dX12_node_88 ?_
            exact g_retZ dX12_node_89 rfl (Or.inr rfl) w
        · refine g_aload_n dX12_node_56 rfl ?_
          refine g_iconst dX12_node_57 ?_
          refine g_callVI (n := 1) (As := [aI 1]) (st := []) dX12_node_58 ml_X12_256 sh_97 rfl (al_97 hn) rfl rfl (Nat.le_of_ble_eq_true rfl) (RtI.mono w (fun r10 h10 w => ?_))
          obtain ⟨o7, w⟩ := w
          exact g_retZ dX12_node_61 rfl o7 w
    · refine g_aload_n dX12_node_23 rfl ?_
      refine g_iconst dX12_node_24 ?_
      refine g_callVI (n := 1) (As := [aI 2]) (st := []) dX12_node_25 ml_X12_256 sh_97 rfl (al_97 hn) rfl rfl (Nat.le_of_ble_eq_true rfl) (RtI.mono w (fun r11 h11 w => ?_))
      obtain ⟨o8, w⟩ := w
      exact g_retZ dX12_node_28 rfl o8 w
  · refine g_aload_n dX12_node_8 rfl ?_
    refine g_iconst dX12_node_9 ?_
    refine g_callVI (n := 1) (As := [aI 1]) (st := []) dX12_node_10 ml_X12_256 sh_97 rfl (al_97 hn) rfl rfl (Nat.le_of_ble_eq_true rfl) (RtI.mono w (fun r12 h12 w => ?_))
    obtain ⟨o9, w⟩ := w
    exact g_retZ dX12_node_13 rfl o9 w
theorem b_X12_strip_2 {l : Launch} {D : Nat} {ζ : ZP} {h : HI} {Q : Int → HI → Prop} {x1 : Int} (hn : 144 ≤ ζ.2.2.2.2) (w : (rg x1) ∧ (rg (h 133 1)) ∧ (if (h 133 1) ≤ x1 then (Q (-1) h) else ((0 ≤ (12 + x1) ∧ (12 + x1) < 24) ∧ (rl (h 126 (12 + x1))) ∧ (rl (h 97 16)) ∧ (if ¬ (h 126 (12 + x1)) = (h 97 16) then (G l (D + 1) 0 0 mX12_strip (zz ζ) 2 [aP 97, aI (x1 + 1)] [] h (qI (zz ζ) Q)) else (Q x1 h))))) : G l (D + 1) 0 0 mX12_strip (zz ζ) 2 [aP 97, aI x1] [] h (qI (zz ζ) Q) := by
  refine g_iload_n dX12_strip_2 rfl ?_
  refine g_aload_n dX12_strip_3 rfl ?_
  refine g_getR dX12_strip_4 fl_X12_141 sh_97 (al_97 hn) (fun _ _ _ => rfl) rf_97_71 ?_
  refine g_iconst dX12_strip_7 ?_
  refine g_iald dX12_strip_8 sh_133 (al_133 hn) (Nat.le_of_ble_eq_true rfl) (by decide) ?_
  obtain ⟨o1, w⟩ := w
  obtain ⟨o2, w⟩ := w
  refine g_cmp_ge (tgt := 37) dX12_strip_9 rfl o1 o2 ?_
  refine ite_imp (fun w => ?_) (fun w => ?_) w
  · refine g_iconst dX12_strip_37 ?_
    exact g_retI dX12_strip_38 rfl w
  · refine g_aload_n dX12_strip_12 rfl ?_
    refine g_getR dX12_strip_13 fl_X12_120 sh_97 (al_97 hn) (fun _ _ _ => rfl) rf_97_64 ?_
    refine g_bipush dX12_strip_16 rfl ?_
    refine g_iload_n dX12_strip_18 rfl ?_
    refine g_iadd dX12_strip_19 ?_
    obtain ⟨o3, w⟩ := w
    refine g_lald dX12_strip_20 sh_126 (al_126 hn) (Nat.le_of_ble_eq_true rfl) o3 ?_
    refine g_aload_n dX12_strip_21 rfl ?_
    refine g_getJ (J := 16) dX12_strip_22 fl_X12_243 sh_97 (al_97 hn) (fun _ _ _ => rfl) rfl ?_
    obtain ⟨o4, w⟩ := w
    obtain ⟨o5, w⟩ := w
    refine g_lcmp dX12_strip_25 o4 o5 ?_
    refine g_if_ne (tgt := 31) dX12_strip_26 rfl (rg_lcm3 _ _) ?_
    refine ite_imp2 lcm3_ne (fun w => ?_) (fun w => ?_) w
    · refine g_iinc (ls' := [aP 97, aI (x1 + 1)]) dX12_strip_31 rfl (Nat.le_of_ble_eq_true rfl) rfl rfl ?_
      refine g_goto (tgt := 2) dX12_strip_34 rfl ?_
      exact g_sub (ls' := [aP 97, aI (x1 + 1)]) ⟨Or.inr rfl, Or.inr rfl, trivial⟩ w
    · refine g_iload_n dX12_strip_29 rfl ?_
      exact g_retI dX12_strip_30 rfl w
theorem e_X12_strip {l : Launch} {D : Nat} {ζ : ZP} {h : HI} {Q : Int → HI → Prop} (hn : 144 ≤ ζ.2.2.2.2) (w : G l (D + 1) 0 0 mX12_strip (zz ζ) 2 [aP 97, aI 0] [] h (qI (zz ζ) Q)) : RtI l (D + 1) mX12_strip (zz ζ) [aP 97] h Q := by
  refine RtI.of 1 pn_X12 [aP 97, aU] rfl rfl ?_
  refine g_iconst dX12_strip_0 ?_
  refine g_istore_n (ls' := [aP 97, aI 0]) dX12_strip_1 (Nat.le_of_ble_eq_true rfl) rfl rfl ?_
  exact g_sub (ls' := [aP 97, aI 0]) ⟨Or.inr rfl, Or.inr rfl, trivial⟩ w
theorem b_X12_readStrip_127 {l : Launch} {D : Nat} {ζ : ZP} {h : HI} {Q : Int → HI → Prop} {x1 x2 : Int} (hn : 144 ≤ ζ.2.2.2.2) (w : RtI l D mX12_isWord (zz ζ) [aP 97, aL 418330731890] h (fun r1 h1 => (rg r1) ∧ (if r1 = 0 then (G l (D + 1) 0 0 mX12_readStrip (zz ζ) 193 [aP 97, aI x1, aL x2, aU, aU] [] h1 (qI (zz ζ) Q)) else (RtV l D mX12_next (zz ζ) [aP 97] h1 (fun h2 => RtI l D mX12_isName (zz ζ) [aP 97] h2 (fun r3 h3 => (rg r3) ∧ (if ¬ r3 = 0 then (RtI l D mX12_strip (zz ζ) [aP 97] h3 (fun r4 h4 => (rg r4) ∧ (if 0 ≤ r4 then ((0 ≤ x1 ∧ x1 < 24) ∧ RtI l D mX12_strip (zz ζ) [aP 97] h4 (fun r5 h5 => RtV l D mX12_next (zz ζ) [aP 97] (hu h5 129 x1 (bor (h4 129 x1) (bshl 1 r5))) (fun h6 => G l (D + 1) 0 0 mX12_readStrip (zz ζ) 127 [aP 97, aI x1, aL x2, aU, aU] [] h6 (qI (zz ζ) Q)))) else (RtI l D mX12_bad (zz ζ) [aP 97, aI 3] h4 (fun r7 h7 => (r7 = 0 ∨ r7 = 1) ∧ Q r7 h7))))) else (RtI l D mX12_bad (zz ζ) [aP 97, aI 1] h3 (fun r8 h8 => (r8 = 0 ∨ r8 = 1) ∧ Q r8 h8))))))))) : G l (D + 1) 0 0 mX12_readStrip (zz ζ) 127 [aP 97, aI x1, aL x2, aU, aU] [] h (qI (zz ζ) Q) := by
  refine g_aload_n dX12_readStrip_127 rfl ?_
  refine g_ldc2 (n := 418330731890) dX12_readStrip_128 kl_X12_213 rfl ?_
  refine g_callVI (n := 1) (As := [aL 418330731890]) (st := []) dX12_readStrip_131 ml_X12_283 sh_97 rfl (al_97 hn) rfl rfl (Nat.le_of_ble_eq_true rfl) (RtI.mono w (fun r1 h1 w => ?_))
  obtain ⟨o1, w⟩ := w
  refine g_if_eq (tgt := 193) dX12_readStrip_134 rfl o1 ?_
  refine ite_imp (fun w => ?_) (fun w => ?_) w
  · exact g_sub (ls' := [aP 97, aI x1, aL x2, aU, aU]) ⟨Or.inr rfl, Or.inr rfl, Or.inr rfl, Or.inl rfl, Or.inl rfl, trivial⟩ w
  · refine g_aload_n dX12_readStrip_137 rfl ?_
    refine g_callVV (n := 0) (As := []) (st := []) dX12_readStrip_138 ml_X12_259 sh_97 rfl (al_97 hn) rfl rfl (Nat.le_of_ble_eq_true rfl) (RtV.mono w (fun h2 w => ?_))
    refine g_aload_n dX12_readStrip_141 rfl ?_
    refine g_callVI (n := 0) (As := []) (st := []) dX12_readStrip_142 ml_X12_269 sh_97 rfl (al_97 hn) rfl rfl (Nat.le_of_ble_eq_true rfl) (RtI.mono w (fun r3 h3 w => ?_))
    obtain ⟨o2, w⟩ := w
    refine g_if_ne (tgt := 154) dX12_readStrip_145 rfl o2 ?_
    refine ite_imp (fun w => ?_) (fun w => ?_) w
    · refine g_aload_n dX12_readStrip_154 rfl ?_
      refine g_callVI (n := 0) (As := []) (st := []) dX12_readStrip_155 ml_X12_507 sh_97 rfl (al_97 hn) rfl rfl (Nat.le_of_ble_eq_true rfl) (RtI.mono w (fun r4 h4 w => ?_))
      obtain ⟨o3, w⟩ := w
      refine g_if_ge (tgt := 167) dX12_readStrip_158 rfl o3 ?_
      refine ite_imp (fun w => ?_) (fun w => ?_) w
      · refine g_aload_n dX12_readStrip_167 rfl ?_
        refine g_getR dX12_readStrip_168 fl_X12_129 sh_97 (al_97 hn) (fun _ _ _ => rfl) rf_97_67 ?_
        refine g_iload_n dX12_readStrip_171 rfl ?_
        refine g_aload_n dX12_readStrip_172 rfl ?_
        refine g_getR dX12_readStrip_173 fl_X12_129 sh_97 (al_97 hn) (fun _ _ _ => rfl) rf_97_67 ?_
        refine g_iload_n dX12_readStrip_176 rfl ?_
        obtain ⟨o4, w⟩ := w
        refine g_iald dX12_readStrip_177 sh_129 (al_129 hn) (Nat.le_of_ble_eq_true rfl) o4 ?_
        refine g_iconst dX12_readStrip_178 ?_
        refine g_aload_n dX12_readStrip_179 rfl ?_
        refine g_callVI (n := 0) (As := []) (st := [aI 1, aI (h4 129 x1), aI x1, aP 129]) dX12_readStrip_180 ml_X12_507 sh_97 rfl (al_97 hn) rfl rfl (Nat.le_of_ble_eq_true rfl) (RtI.mono w (fun r5 h5 w => ?_))
        refine g_ishl dX12_readStrip_183 ?_
        refine g_ior dX12_readStrip_184 ?_
        refine g_iast dX12_readStrip_185 sh_129 (al_129 hn) (Nat.le_of_ble_eq_true rfl) o4 ?_
        refine g_aload_n dX12_readStrip_186 rfl ?_
        refine g_callVV (n := 0) (As := []) (st := []) dX12_readStrip_187 ml_X12_259 sh_97 rfl (al_97 hn) rfl rfl (Nat.le_of_ble_eq_true rfl) (RtV.mono w (fun h6 w => ?_))
        refine g_goto (tgt := 127) dX12_readStrip_190 rfl ?_
        exact g_sub (ls' := [aP 97, aI x1, aL x2, aU, aU]) ⟨Or.inr rfl, Or.inr rfl, Or.inr rfl, Or.inl rfl, Or.inl rfl, trivial⟩ w
      · refine g_aload_n dX12_readStrip_161 rfl ?_
        refine g_iconst dX12_readStrip_162 ?_
        refine g_callVI (n := 1) (As := [aI 3]) (st := []) dX12_readStrip_163 ml_X12_256 sh_97 rfl (al_97 hn) rfl rfl (Nat.le_of_ble_eq_true rfl) (RtI.mono w (fun r7 h7 w => ?_))
        obtain ⟨o5, w⟩ := w
        exact g_retZ dX12_readStrip_166 rfl o5 w
    · refine g_aload_n dX12_readStrip_148 rfl ?_
      refine g_iconst dX12_readStrip_149 ?_
      refine g_callVI (n := 1) (As := [aI 1]) (st := []) dX12_readStrip_150 ml_X12_256 sh_97 rfl (al_97 hn) rfl rfl (Nat.le_of_ble_eq_true rfl) (RtI.mono w (fun r8 h8 w => ?_))
      obtain ⟨o6, w⟩ := w
      exact g_retZ dX12_readStrip_153 rfl o6 w
theorem b_X12_readStrip_193 {l : Launch} {D : Nat} {ζ : ZP} {h : HI} {Q : Int → HI → Prop} {x1 x2 : Int} (hn : 144 ≤ ζ.2.2.2.2) (w : RtI l D mX12_isWord (zz ζ) [aP 97, aL 1852137842] h (fun r1 h1 => (rg r1) ∧ (if r1 = 0 then ((0 ≤ x1 ∧ x1 < 24) ∧ RtI l D mX12_sign (zz ζ) [aP 97, aI 59] (hu (hu h1 126 x1 x2) 133 1 ((h1 133 1) + 1)) (fun r2 h2 => (r2 = 0 ∨ r2 = 1) ∧ Q r2 h2)) else (RtV l D mX12_next (zz ζ) [aP 97] h1 (fun h3 => RtI l D mX12_node (zz ζ) [aP 97] h3 (fun r4 h4 => (rg r4) ∧ (if ¬ r4 = 0 then ((0 ≤ (80 + (h3 134 1)) ∧ (80 + (h3 134 1)) < 160) ∧ RtI l D mX12_node (zz ζ) [aP 97] (hu h4 131 (80 + (h3 134 1)) (h4 97 17)) (fun r5 h5 => (rg r5) ∧ (if ¬ r5 = 0 then (G l (D + 1) 0 0 mX12_readStrip (zz ζ) 193 [aP 97, aI x1, aL x2, aU, aU] [] (hu (hu (hu h5 132 (80 + (h3 134 1)) (h5 97 17)) 130 (80 + (h3 134 1)) (h5 133 1)) 134 1 ((h5 134 1) + 1)) (qI (zz ζ) Q)) else (Q 0 h5)))) else (Q 0 h4)))))))) : G l (D + 1) 0 0 mX12_readStrip (zz ζ) 193 [aP 97, aI x1, aL x2, aU, aU] [] h (qI (zz ζ) Q) := by
  refine g_aload_n dX12_readStrip_193 rfl ?_
  refine g_ldc2 (n := 1852137842) dX12_readStrip_194 kl_X12_215 rfl ?_
  refine g_callVI (n := 1) (As := [aL 1852137842]) (st := []) dX12_readStrip_197 ml_X12_283 sh_97 rfl (al_97 hn) rfl rfl (Nat.le_of_ble_eq_true rfl) (RtI.mono w (fun r1 h1 w => ?_))
  obtain ⟨o1, w⟩ := w
  refine g_if_eq (tgt := 284) dX12_readStrip_200 rfl o1 ?_
  refine ite_imp (fun w => ?_) (fun w => ?_) w
  · refine g_aload_n dX12_readStrip_284 rfl ?_
    refine g_getR dX12_readStrip_285 fl_X12_120 sh_97 (al_97 hn) (fun _ _ _ => rfl) rf_97_64 ?_
    refine g_iload_n dX12_readStrip_288 rfl ?_
    refine g_lload_n dX12_readStrip_289 rfl ?_
    obtain ⟨o2, w⟩ := w
    refine g_last dX12_readStrip_290 sh_126 (al_126 hn) (Nat.le_of_ble_eq_true rfl) o2 ?_
    refine g_aload_n dX12_readStrip_291 rfl ?_
    refine g_getR dX12_readStrip_292 fl_X12_141 sh_97 (al_97 hn) (fun _ _ _ => rfl) rf_97_71 ?_
    refine g_iconst dX12_readStrip_295 ?_
    refine g_dup2 dX12_readStrip_296 rfl rfl ?_
    refine g_iald dX12_readStrip_297 sh_133 (al_133 hn) (Nat.le_of_ble_eq_true rfl) (by decide) ?_
    refine g_iconst dX12_readStrip_298 ?_
    refine g_iadd dX12_readStrip_299 ?_
    refine g_iast dX12_readStrip_300 sh_133 (al_133 hn) (Nat.le_of_ble_eq_true rfl) (by decide) ?_
    refine g_aload_n dX12_readStrip_301 rfl ?_
    refine g_bipush dX12_readStrip_302 rfl ?_
    refine g_callVI (n := 1) (As := [aI 59]) (st := []) dX12_readStrip_304 ml_X12_301 sh_97 rfl (al_97 hn) rfl rfl (Nat.le_of_ble_eq_true rfl) (RtI.mono w (fun r2 h2 w => ?_))
    obtain ⟨o3, w⟩ := w
    exact g_retZ dX12_readStrip_307 rfl o3 w
  · refine g_aload_n dX12_readStrip_203 rfl ?_
    refine g_callVV (n := 0) (As := []) (st := []) dX12_readStrip_204 ml_X12_259 sh_97 rfl (al_97 hn) rfl rfl (Nat.le_of_ble_eq_true rfl) (RtV.mono w (fun h3 w => ?_))
    refine g_bipush dX12_readStrip_207 rfl ?_
    refine g_aload_n dX12_readStrip_209 rfl ?_
    refine g_getR dX12_readStrip_210 fl_X12_144 sh_97 (al_97 hn) (fun _ _ _ => rfl) rf_97_72 ?_
    refine g_iconst dX12_readStrip_213 ?_
    refine g_iald dX12_readStrip_214 sh_134 (al_134 hn) (Nat.le_of_ble_eq_true rfl) (by decide) ?_
    refine g_iadd dX12_readStrip_215 ?_
    refine g_istore (ls' := [aP 97, aI x1, aL x2, aU, aI (80 + (h3 134 1))]) dX12_readStrip_216 (Nat.le_of_ble_eq_true rfl) rfl rfl ?_
    refine g_aload_n dX12_readStrip_218 rfl ?_
    refine g_callVI (n := 0) (As := []) (st := []) dX12_readStrip_219 ml_X12_510 sh_97 rfl (al_97 hn) rfl rfl (Nat.le_of_ble_eq_true rfl) (RtI.mono w (fun r4 h4 w => ?_))
    obtain ⟨o4, w⟩ := w
    refine g_if_ne (tgt := 227) dX12_readStrip_222 rfl o4 ?_
    refine ite_imp (fun w => ?_) (fun w => ?_) w
    · refine g_aload_n dX12_readStrip_227 rfl ?_
      refine g_getR dX12_readStrip_228 fl_X12_135 sh_97 (al_97 hn) (fun _ _ _ => rfl) rf_97_69 ?_
      refine g_iload dX12_readStrip_231 rfl ?_
      refine g_aload_n dX12_readStrip_233 rfl ?_
      refine g_getI (J := 17) dX12_readStrip_234 fl_X12_266 sh_97 (al_97 hn) (fun _ _ _ => rfl) rfl ?_
      obtain ⟨o5, w⟩ := w
      refine g_iast dX12_readStrip_237 sh_131 (al_131 hn) (Nat.le_of_ble_eq_true rfl) o5 ?_
      refine g_aload_n dX12_readStrip_238 rfl ?_
      refine g_callVI (n := 0) (As := []) (st := []) dX12_readStrip_239 ml_X12_510 sh_97 rfl (al_97 hn) rfl rfl (Nat.le_of_ble_eq_true rfl) (RtI.mono w (fun r5 h5 w => ?_))
      obtain ⟨o6, w⟩ := w
      refine g_if_ne (tgt := 247) dX12_readStrip_242 rfl o6 ?_
      refine ite_imp (fun w => ?_) (fun w => ?_) w
      · refine g_aload_n dX12_readStrip_247 rfl ?_
        refine g_getR dX12_readStrip_248 fl_X12_138 sh_97 (al_97 hn) (fun _ _ _ => rfl) rf_97_70 ?_
        refine g_iload dX12_readStrip_251 rfl ?_
        refine g_aload_n dX12_readStrip_253 rfl ?_
        refine g_getI (J := 17) dX12_readStrip_254 fl_X12_266 sh_97 (al_97 hn) (fun _ _ _ => rfl) rfl ?_
        refine g_iast dX12_readStrip_257 sh_132 (al_132 hn) (Nat.le_of_ble_eq_true rfl) o5 ?_
        refine g_aload_n dX12_readStrip_258 rfl ?_
        refine g_getR dX12_readStrip_259 fl_X12_132 sh_97 (al_97 hn) (fun _ _ _ => rfl) rf_97_68 ?_
        refine g_iload dX12_readStrip_262 rfl ?_
        refine g_aload_n dX12_readStrip_264 rfl ?_
        refine g_getR dX12_readStrip_265 fl_X12_141 sh_97 (al_97 hn) (fun _ _ _ => rfl) rf_97_71 ?_
        refine g_iconst dX12_readStrip_268 ?_
        refine g_iald dX12_readStrip_269 sh_133 (al_133 hn) (Nat.le_of_ble_eq_true rfl) (by decide) ?_
        refine g_iast dX12_readStrip_270 sh_130 (al_130 hn) (Nat.le_of_ble_eq_true rfl) o5 ?_
        refine g_aload_n dX12_readStrip_271 rfl ?_
        refine g_getR dX12_readStrip_272 fl_X12_144 sh_97 (al_97 hn) (fun _ _ _ => rfl) rf_97_72 ?_
        refine g_iconst dX12_readStrip_275 ?_
        refine g_dup2 dX12_readStrip_276 rfl rfl ?_
        refine g_iald dX12_readStrip_277 sh_134 (al_134 hn) (Nat.le_of_ble_eq_true rfl) (by decide) ?_
        refine g_iconst dX12_readStrip_278 ?_
        refine g_iadd dX12_readStrip_279 ?_
        refine g_iast dX12_readStrip_280 sh_134 (al_134 hn) (Nat.le_of_ble_eq_true rfl) (by decide) ?_
        refine g_goto (tgt := 193) dX12_readStrip_281 rfl ?_
        exact g_sub (ls' := [aP 97, aI x1, aL x2, aU, aU]) ⟨Or.inr rfl, Or.inr rfl, Or.inr rfl, Or.inl rfl, Or.inl rfl, trivial⟩ w
      · refine g_iconst dX12_readStrip_245 ?_
        exact g_retZ dX12_readStrip_246 rfl (Or.inl rfl) w
    · refine g_iconst dX12_readStrip_225 ?_
      exact g_retZ dX12_readStrip_226 rfl (Or.inl rfl) w
theorem e_X12_readStrip {l : Launch} {D : Nat} {ζ : ZP} {h : HI} {Q : Int → HI → Prop} (hn : 144 ≤ ζ.2.2.2.2) (w : RtI l D mX12_isWord (zz ζ) [aP 97, aL 495874894192] h (fun r1 h1 => (rg r1) ∧ (if ¬ r1 = 0 then ((rg (h1 133 1)) ∧ (if ¬ (h1 133 1) = 12 then (RtV l D mX12_next (zz ζ) [aP 97] h1 (fun h2 => RtI l D mX12_isName (zz ζ) [aP 97] h2 (fun r3 h3 => (rg r3) ∧ (if ¬ r3 = 0 then (RtI l D mX12_strip (zz ζ) [aP 97] h3 (fun r4 h4 => (rg r4) ∧ (if r4 < 0 then (RtV l D mX12_next (zz ζ) [aP 97] h4 (fun h5 => RtI l D mX12_node (zz ζ) [aP 97] h5 (fun r6 h6 => (rg r6) ∧ (if ¬ r6 = 0 then ((0 ≤ (12 + (h4 133 1)) ∧ (12 + (h4 133 1)) < 24) ∧ RtI l D mX12_node (zz ζ) [aP 97] (hu h6 127 (12 + (h4 133 1)) (h6 97 17)) (fun r7 h7 => (rg r7) ∧ (if ¬ r7 = 0 then (G l (D + 1) 0 0 mX12_readStrip (zz ζ) 127 [aP 97, aI (12 + (h4 133 1)), aL (h4 97 16), aU, aU] [] (hu (hu h7 128 (12 + (h4 133 1)) (h7 97 17)) 129 (12 + (h4 133 1)) 0) (qI (zz ζ) Q)) else (Q 0 h7)))) else (Q 0 h6))))) else (RtI l D mX12_bad (zz ζ) [aP 97, aI 3] h4 (fun r8 h8 => (r8 = 0 ∨ r8 = 1) ∧ Q r8 h8))))) else (RtI l D mX12_bad (zz ζ) [aP 97, aI 1] h3 (fun r9 h9 => (r9 = 0 ∨ r9 = 1) ∧ Q r9 h9)))))) else (RtI l D mX12_bad (zz ζ) [aP 97, aI 4] h1 (fun r10 h10 => (r10 = 0 ∨ r10 = 1) ∧ Q r10 h10)))) else (RtI l D mX12_bad (zz ζ) [aP 97, aI 1] h1 (fun r11 h11 => (r11 = 0 ∨ r11 = 1) ∧ Q r11 h11))))) : RtI l (D + 1) mX12_readStrip (zz ζ) [aP 97] h Q := by
  refine RtI.of 4 pn_X12 [aP 97, aU, aU, aU, aU] rfl rfl ?_
  refine g_aload_n dX12_readStrip_0 rfl ?_
  refine g_ldc2 (n := 495874894192) dX12_readStrip_1 kl_X12_211 rfl ?_
  refine g_callVI (n := 1) (As := [aL 495874894192]) (st := []) dX12_readStrip_4 ml_X12_283 sh_97 rfl (al_97 hn) rfl rfl (Nat.le_of_ble_eq_true rfl) (RtI.mono w (fun r1 h1 w => ?_))
  obtain ⟨o1, w⟩ := w
  refine g_if_ne (tgt := 16) dX12_readStrip_7 rfl o1 ?_
  refine ite_imp (fun w => ?_) (fun w => ?_) w
  · refine g_aload_n dX12_readStrip_16 rfl ?_
    refine g_getR dX12_readStrip_17 fl_X12_141 sh_97 (al_97 hn) (fun _ _ _ => rfl) rf_97_71 ?_
    refine g_iconst dX12_readStrip_20 ?_
    refine g_iald dX12_readStrip_21 sh_133 (al_133 hn) (Nat.le_of_ble_eq_true rfl) (by decide) ?_
    refine g_bipush dX12_readStrip_22 rfl ?_
    obtain ⟨o2, w⟩ := w
    refine g_cmp_ne (tgt := 33) dX12_readStrip_24 rfl o2 (by decide) ?_
    refine ite_imp (fun w => ?_) (fun w => ?_) w
    · refine g_aload_n dX12_readStrip_33 rfl ?_
      refine g_callVV (n := 0) (As := []) (st := []) dX12_readStrip_34 ml_X12_259 sh_97 rfl (al_97 hn) rfl rfl (Nat.le_of_ble_eq_true rfl) (RtV.mono w (fun h2 w => ?_))
      refine g_aload_n dX12_readStrip_37 rfl ?_
      refine g_callVI (n := 0) (As := []) (st := []) dX12_readStrip_38 ml_X12_269 sh_97 rfl (al_97 hn) rfl rfl (Nat.le_of_ble_eq_true rfl) (RtI.mono w (fun r3 h3 w => ?_))
      obtain ⟨o3, w⟩ := w
      refine g_if_ne (tgt := 50) dX12_readStrip_41 rfl o3 ?_
      refine ite_imp (fun w => ?_) (fun w => ?_) w
      · refine g_aload_n dX12_readStrip_50 rfl ?_
        refine g_callVI (n := 0) (As := []) (st := []) dX12_readStrip_51 ml_X12_507 sh_97 rfl (al_97 hn) rfl rfl (Nat.le_of_ble_eq_true rfl) (RtI.mono w (fun r4 h4 w => ?_))
        obtain ⟨o4, w⟩ := w
        refine g_if_lt (tgt := 63) dX12_readStrip_54 rfl o4 ?_
        refine ite_imp (fun w => ?_) (fun w => ?_) w
        · refine g_bipush dX12_readStrip_63 rfl ?_
          refine g_aload_n dX12_readStrip_65 rfl ?_
          refine g_getR dX12_readStrip_66 fl_X12_141 sh_97 (al_97 hn) (fun _ _ _ => rfl) rf_97_71 ?_
          refine g_iconst dX12_readStrip_69 ?_
          refine g_iald dX12_readStrip_70 sh_133 (al_133 hn) (Nat.le_of_ble_eq_true rfl) (by decide) ?_
          refine g_iadd dX12_readStrip_71 ?_
          refine g_istore_n (ls' := [aP 97, aI (12 + (h4 133 1)), aU, aU, aU]) dX12_readStrip_72 (Nat.le_of_ble_eq_true rfl) rfl rfl ?_
          refine g_aload_n dX12_readStrip_73 rfl ?_
          refine g_getJ (J := 16) dX12_readStrip_74 fl_X12_243 sh_97 (al_97 hn) (fun _ _ _ => rfl) rfl ?_
          refine g_lstore_n (ls' := [aP 97, aI (12 + (h4 133 1)), aL (h4 97 16), aU, aU]) dX12_readStrip_77 (Nat.le_of_ble_eq_true rfl) rfl rfl ?_
          refine g_aload_n dX12_readStrip_78 rfl ?_
          refine g_callVV (n := 0) (As := []) (st := []) dX12_readStrip_79 ml_X12_259 sh_97 rfl (al_97 hn) rfl rfl (Nat.le_of_ble_eq_true rfl) (RtV.mono w (fun h5 w => ?_))
          refine g_aload_n dX12_readStrip_82 rfl ?_
          refine g_callVI (n := 0) (As := []) (st := []) dX12_readStrip_83 ml_X12_510 sh_97 rfl (al_97 hn) rfl rfl (Nat.le_of_ble_eq_true rfl) (RtI.mono w (fun r6 h6 w => ?_))
          obtain ⟨o5, w⟩ := w
          refine g_if_ne (tgt := 91) dX12_readStrip_86 rfl o5 ?_
          refine ite_imp (fun w => ?_) (fun w => ?_) w
          · refine g_aload_n dX12_readStrip_91 rfl ?_
            refine g_getR dX12_readStrip_92 fl_X12_123 sh_97 (al_97 hn) (fun _ _ _ => rfl) rf_97_65 ?_
            refine g_iload_n dX12_readStrip_95 rfl ?_
            refine g_aload_n dX12_readStrip_96 rfl ?_
            refine g_getI (J := 17) dX12_readStrip_97 fl_X12_266 sh_97 (al_97 hn) (fun _ _ _ => rfl) rfl ?_
            obtain ⟨o6, w⟩ := w
            refine g_iast dX12_readStrip_100 sh_127 (al_127 hn) (Nat.le_of_ble_eq_true rfl) o6 ?_
            refine g_aload_n dX12_readStrip_101 rfl ?_
            refine g_callVI (n := 0) (As := []) (st := []) dX12_readStrip_102 ml_X12_510 sh_97 rfl (al_97 hn) rfl rfl (Nat.le_of_ble_eq_true rfl) (RtI.mono w (fun r7 h7 w => ?_))
            obtain ⟨o7, w⟩ := w
            refine g_if_ne (tgt := 110) dX12_readStrip_105 rfl o7 ?_
            refine ite_imp (fun w => ?_) (fun w => ?_) w
            · refine g_aload_n dX12_readStrip_110 rfl ?_
              refine g_getR dX12_readStrip_111 fl_X12_126 sh_97 (al_97 hn) (fun _ _ _ => rfl) rf_97_66 ?_
              refine g_iload_n dX12_readStrip_114 rfl ?_
              refine g_aload_n dX12_readStrip_115 rfl ?_
              refine g_getI (J := 17) dX12_readStrip_116 fl_X12_266 sh_97 (al_97 hn) (fun _ _ _ => rfl) rfl ?_
              refine g_iast dX12_readStrip_119 sh_128 (al_128 hn) (Nat.le_of_ble_eq_true rfl) o6 ?_
              refine g_aload_n dX12_readStrip_120 rfl ?_
              refine g_getR dX12_readStrip_121 fl_X12_129 sh_97 (al_97 hn) (fun _ _ _ => rfl) rf_97_67 ?_
              refine g_iload_n dX12_readStrip_124 rfl ?_
              refine g_iconst dX12_readStrip_125 ?_
              refine g_iast dX12_readStrip_126 sh_129 (al_129 hn) (Nat.le_of_ble_eq_true rfl) o6 ?_
              exact g_sub (ls' := [aP 97, aI (12 + (h4 133 1)), aL (h4 97 16), aU, aU]) ⟨Or.inr rfl, Or.inr rfl, Or.inr rfl, Or.inl rfl, Or.inl rfl, trivial⟩ w
            · refine g_iconst dX12_readStrip_108 ?_
              exact g_retZ dX12_readStrip_109 rfl (Or.inl rfl) w
          · refine g_iconst dX12_readStrip_89 ?_
            exact g_retZ dX12_readStrip_90 rfl (Or.inl rfl) w
        · refine g_aload_n dX12_readStrip_57 rfl ?_
          refine g_iconst dX12_readStrip_58 ?_
          refine g_callVI (n := 1) (As := [aI 3]) (st := []) dX12_readStrip_59 ml_X12_256 sh_97 rfl (al_97 hn) rfl rfl (Nat.le_of_ble_eq_true rfl) (RtI.mono w (fun r8 h8 w => ?_))
          obtain ⟨o8, w⟩ := w
          exact g_retZ dX12_readStrip_62 rfl o8 w
      · refine g_aload_n dX12_readStrip_44 rfl ?_
        refine g_iconst dX12_readStrip_45 ?_
        refine g_callVI (n := 1) (As := [aI 1]) (st := []) dX12_readStrip_46 ml_X12_256 sh_97 rfl (al_97 hn) rfl rfl (Nat.le_of_ble_eq_true rfl) (RtI.mono w (fun r9 h9 w => ?_))
        obtain ⟨o9, w⟩ := w
        exact g_retZ dX12_readStrip_49 rfl o9 w
    · refine g_aload_n dX12_readStrip_27 rfl ?_
      refine g_iconst dX12_readStrip_28 ?_
      refine g_callVI (n := 1) (As := [aI 4]) (st := []) dX12_readStrip_29 ml_X12_256 sh_97 rfl (al_97 hn) rfl rfl (Nat.le_of_ble_eq_true rfl) (RtI.mono w (fun r10 h10 w => ?_))
      obtain ⟨o10, w⟩ := w
      exact g_retZ dX12_readStrip_32 rfl o10 w
  · refine g_aload_n dX12_readStrip_10 rfl ?_
    refine g_iconst dX12_readStrip_11 ?_
    refine g_callVI (n := 1) (As := [aI 1]) (st := []) dX12_readStrip_12 ml_X12_256 sh_97 rfl (al_97 hn) rfl rfl (Nat.le_of_ble_eq_true rfl) (RtI.mono w (fun r11 h11 w => ?_))
    obtain ⟨o11, w⟩ := w
    exact g_retZ dX12_readStrip_15 rfl o11 w
theorem b_X12_welds_35 {l : Launch} {D : Nat} {ζ : ZP} {h : HI} {Q : Int → HI → Prop} (hn : 144 ≤ ζ.2.2.2.2) (w : (rg (h 97 10)) ∧ (if (h 97 10) = 0 then (G l (D + 1) 0 0 mX12_welds (zz ζ) 82 [aP 97, aI 0] [] (hu (hu h 133 0 (h 133 1)) 134 0 (h 134 1)) (qI (zz ζ) Q)) else (RtI l D mX12_readStrip (zz ζ) [aP 97] h (fun r1 h1 => (rg r1) ∧ (if ¬ r1 = 0 then (G l (D + 1) 0 0 mX12_welds (zz ζ) 35 [aP 97, aU] [] h1 (qI (zz ζ) Q)) else (Q ((-1) - (h1 97 15)) h1)))))) : G l (D + 1) 0 0 mX12_welds (zz ζ) 35 [aP 97, aU] [] h (qI (zz ζ) Q) := by
  refine g_aload_n dX12_welds_35 rfl ?_
  refine g_getI (J := 10) dX12_welds_36 fl_X12_230 sh_97 (al_97 hn) (fun _ _ _ => rfl) rfl ?_
  obtain ⟨o1, w⟩ := w
  refine g_if_eq (tgt := 56) dX12_welds_39 rfl o1 ?_
  refine ite_imp (fun w => ?_) (fun w => ?_) w
  · refine g_aload_n dX12_welds_56 rfl ?_
    refine g_getR dX12_welds_57 fl_X12_141 sh_97 (al_97 hn) (fun _ _ _ => rfl) rf_97_71 ?_
    refine g_iconst dX12_welds_60 ?_
    refine g_aload_n dX12_welds_61 rfl ?_
    refine g_getR dX12_welds_62 fl_X12_141 sh_97 (al_97 hn) (fun _ _ _ => rfl) rf_97_71 ?_
    refine g_iconst dX12_welds_65 ?_
    refine g_iald dX12_welds_66 sh_133 (al_133 hn) (Nat.le_of_ble_eq_true rfl) (by decide) ?_
    refine g_iast dX12_welds_67 sh_133 (al_133 hn) (Nat.le_of_ble_eq_true rfl) (by decide) ?_
    refine g_aload_n dX12_welds_68 rfl ?_
    refine g_getR dX12_welds_69 fl_X12_144 sh_97 (al_97 hn) (fun _ _ _ => rfl) rf_97_72 ?_
    refine g_iconst dX12_welds_72 ?_
    refine g_aload_n dX12_welds_73 rfl ?_
    refine g_getR dX12_welds_74 fl_X12_144 sh_97 (al_97 hn) (fun _ _ _ => rfl) rf_97_72 ?_
    refine g_iconst dX12_welds_77 ?_
    refine g_iald dX12_welds_78 sh_134 (al_134 hn) (Nat.le_of_ble_eq_true rfl) (by decide) ?_
    refine g_iast dX12_welds_79 sh_134 (al_134 hn) (Nat.le_of_ble_eq_true rfl) (by decide) ?_
    refine g_iconst dX12_welds_80 ?_
    refine g_istore_n (ls' := [aP 97, aI 0]) dX12_welds_81 (Nat.le_of_ble_eq_true rfl) rfl rfl ?_
    exact g_sub (ls' := [aP 97, aI 0]) ⟨Or.inr rfl, Or.inr rfl, trivial⟩ w
  · refine g_aload_n dX12_welds_42 rfl ?_
    refine g_callVI (n := 0) (As := []) (st := []) dX12_welds_43 ml_X12_513 sh_97 rfl (al_97 hn) rfl rfl (Nat.le_of_ble_eq_true rfl) (RtI.mono w (fun r1 h1 w => ?_))
    obtain ⟨o2, w⟩ := w
    refine g_if_ne (tgt := 35) dX12_welds_46 rfl o2 ?_
    refine ite_imp (fun w => ?_) (fun w => ?_) w
    · exact g_sub (ls' := [aP 97, aU]) ⟨Or.inr rfl, Or.inl rfl, trivial⟩ w
    · refine g_iconst dX12_welds_49 ?_
      refine g_aload_n dX12_welds_50 rfl ?_
      refine g_getI (J := 15) dX12_welds_51 fl_X12_250 sh_97 (al_97 hn) (fun _ _ _ => rfl) rfl ?_
      refine g_isub dX12_welds_54 ?_
      exact g_retI dX12_welds_55 rfl w
theorem b_X12_welds_82 {l : Launch} {D : Nat} {ζ : ZP} {h : HI} {Q : Int → HI → Prop} {x1 : Int} (hn : 144 ≤ ζ.2.2.2.2) (w : (rg x1) ∧ (rg (h 133 0)) ∧ (if (h 133 0) ≤ x1 then (G l (D + 1) 0 0 mX12_welds (zz ζ) 145 [aP 97, aI 0] [] h (qI (zz ζ) Q)) else ((0 ≤ (12 + x1) ∧ (12 + x1) < 24) ∧ (0 ≤ x1 ∧ x1 < 24) ∧ G l (D + 1) 0 0 mX12_welds (zz ζ) 82 [aP 97, aI (x1 + 1)] [] (hu (hu (hu h 127 x1 (h 127 (12 + x1))) 128 x1 (h 128 (12 + x1))) 129 x1 (h 129 (12 + x1))) (qI (zz ζ) Q)))) : G l (D + 1) 0 0 mX12_welds (zz ζ) 82 [aP 97, aI x1] [] h (qI (zz ζ) Q) := by
  refine g_iload_n dX12_welds_82 rfl ?_
  refine g_aload_n dX12_welds_83 rfl ?_
  refine g_getR dX12_welds_84 fl_X12_141 sh_97 (al_97 hn) (fun _ _ _ => rfl) rf_97_71 ?_
  refine g_iconst dX12_welds_87 ?_
  refine g_iald dX12_welds_88 sh_133 (al_133 hn) (Nat.le_of_ble_eq_true rfl) (by decide) ?_
  obtain ⟨o1, w⟩ := w
  obtain ⟨o2, w⟩ := w
  refine g_cmp_ge (tgt := 143) dX12_welds_89 rfl o1 o2 ?_
  refine ite_imp (fun w => ?_) (fun w => ?_) w
  · refine g_iconst dX12_welds_143 ?_
    refine g_istore_n (ls' := [aP 97, aI 0]) dX12_welds_144 (Nat.le_of_ble_eq_true rfl) rfl rfl ?_
    exact g_sub (ls' := [aP 97, aI 0]) ⟨Or.inr rfl, Or.inr rfl, trivial⟩ w
  · refine g_aload_n dX12_welds_92 rfl ?_
    refine g_getR dX12_welds_93 fl_X12_123 sh_97 (al_97 hn) (fun _ _ _ => rfl) rf_97_65 ?_
    refine g_iload_n dX12_welds_96 rfl ?_
    refine g_aload_n dX12_welds_97 rfl ?_
    refine g_getR dX12_welds_98 fl_X12_123 sh_97 (al_97 hn) (fun _ _ _ => rfl) rf_97_65 ?_
    refine g_bipush dX12_welds_101 rfl ?_
    refine g_iload_n dX12_welds_103 rfl ?_
    refine g_iadd dX12_welds_104 ?_
    obtain ⟨o3, w⟩ := w
    refine g_iald dX12_welds_105 sh_127 (al_127 hn) (Nat.le_of_ble_eq_true rfl) o3 ?_
    obtain ⟨o4, w⟩ := w
    refine g_iast dX12_welds_106 sh_127 (al_127 hn) (Nat.le_of_ble_eq_true rfl) o4 ?_
    refine g_aload_n dX12_welds_107 rfl ?_
    refine g_getR dX12_welds_108 fl_X12_126 sh_97 (al_97 hn) (fun _ _ _ => rfl) rf_97_66 ?_
    refine g_iload_n dX12_welds_111 rfl ?_
    refine g_aload_n dX12_welds_112 rfl ?_
    refine g_getR dX12_welds_113 fl_X12_126 sh_97 (al_97 hn) (fun _ _ _ => rfl) rf_97_66 ?_
    refine g_bipush dX12_welds_116 rfl ?_
    refine g_iload_n dX12_welds_118 rfl ?_
    refine g_iadd dX12_welds_119 ?_
    refine g_iald dX12_welds_120 sh_128 (al_128 hn) (Nat.le_of_ble_eq_true rfl) o3 ?_
    refine g_iast dX12_welds_121 sh_128 (al_128 hn) (Nat.le_of_ble_eq_true rfl) o4 ?_
    refine g_aload_n dX12_welds_122 rfl ?_
    refine g_getR dX12_welds_123 fl_X12_129 sh_97 (al_97 hn) (fun _ _ _ => rfl) rf_97_67 ?_
    refine g_iload_n dX12_welds_126 rfl ?_
    refine g_aload_n dX12_welds_127 rfl ?_
    refine g_getR dX12_welds_128 fl_X12_129 sh_97 (al_97 hn) (fun _ _ _ => rfl) rf_97_67 ?_
    refine g_bipush dX12_welds_131 rfl ?_
    refine g_iload_n dX12_welds_133 rfl ?_
    refine g_iadd dX12_welds_134 ?_
    refine g_iald dX12_welds_135 sh_129 (al_129 hn) (Nat.le_of_ble_eq_true rfl) o3 ?_
    refine g_iast dX12_welds_136 sh_129 (al_129 hn) (Nat.le_of_ble_eq_true rfl) o4 ?_
    refine g_iinc (ls' := [aP 97, aI (x1 + 1)]) dX12_welds_137 rfl (Nat.le_of_ble_eq_true rfl) rfl rfl ?_
    refine g_goto (tgt := 82) dX12_welds_140 rfl ?_
    exact g_sub (ls' := [aP 97, aI (x1 + 1)]) ⟨Or.inr rfl, Or.inr rfl, trivial⟩ w
theorem b_X12_welds_145 {l : Launch} {D : Nat} {ζ : ZP} {h : HI} {Q : Int → HI → Prop} {x1 : Int} (hn : 144 ≤ ζ.2.2.2.2) (w : (rg x1) ∧ (rg (h 134 0)) ∧ (if (h 134 0) ≤ x1 then (Q (h 133 0) h) else ((0 ≤ (80 + x1) ∧ (80 + x1) < 160) ∧ (0 ≤ x1 ∧ x1 < 160) ∧ G l (D + 1) 0 0 mX12_welds (zz ζ) 145 [aP 97, aI (x1 + 1)] [] (hu (hu (hu h 131 x1 (h 131 (80 + x1))) 132 x1 (h 132 (80 + x1))) 130 x1 (h 130 (80 + x1))) (qI (zz ζ) Q)))) : G l (D + 1) 0 0 mX12_welds (zz ζ) 145 [aP 97, aI x1] [] h (qI (zz ζ) Q) := by
  refine g_iload_n dX12_welds_145 rfl ?_
  refine g_aload_n dX12_welds_146 rfl ?_
  refine g_getR dX12_welds_147 fl_X12_144 sh_97 (al_97 hn) (fun _ _ _ => rfl) rf_97_72 ?_
  refine g_iconst dX12_welds_150 ?_
  refine g_iald dX12_welds_151 sh_134 (al_134 hn) (Nat.le_of_ble_eq_true rfl) (by decide) ?_
  obtain ⟨o1, w⟩ := w
  obtain ⟨o2, w⟩ := w
  refine g_cmp_ge (tgt := 206) dX12_welds_152 rfl o1 o2 ?_
  refine ite_imp (fun w => ?_) (fun w => ?_) w
  · refine g_aload_n dX12_welds_206 rfl ?_
    refine g_getR dX12_welds_207 fl_X12_141 sh_97 (al_97 hn) (fun _ _ _ => rfl) rf_97_71 ?_
    refine g_iconst dX12_welds_210 ?_
    refine g_iald dX12_welds_211 sh_133 (al_133 hn) (Nat.le_of_ble_eq_true rfl) (by decide) ?_
    exact g_retI dX12_welds_212 rfl w
  · refine g_aload_n dX12_welds_155 rfl ?_
    refine g_getR dX12_welds_156 fl_X12_135 sh_97 (al_97 hn) (fun _ _ _ => rfl) rf_97_69 ?_
    refine g_iload_n dX12_welds_159 rfl ?_
    refine g_aload_n dX12_welds_160 rfl ?_
    refine g_getR dX12_welds_161 fl_X12_135 sh_97 (al_97 hn) (fun _ _ _ => rfl) rf_97_69 ?_
    refine g_bipush dX12_welds_164 rfl ?_
    refine g_iload_n dX12_welds_166 rfl ?_
    refine g_iadd dX12_welds_167 ?_
    obtain ⟨o3, w⟩ := w
    refine g_iald dX12_welds_168 sh_131 (al_131 hn) (Nat.le_of_ble_eq_true rfl) o3 ?_
    obtain ⟨o4, w⟩ := w
    refine g_iast dX12_welds_169 sh_131 (al_131 hn) (Nat.le_of_ble_eq_true rfl) o4 ?_
    refine g_aload_n dX12_welds_170 rfl ?_
    refine g_getR dX12_welds_171 fl_X12_138 sh_97 (al_97 hn) (fun _ _ _ => rfl) rf_97_70 ?_
    refine g_iload_n dX12_welds_174 rfl ?_
    refine g_aload_n dX12_welds_175 rfl ?_
    refine g_getR dX12_welds_176 fl_X12_138 sh_97 (al_97 hn) (fun _ _ _ => rfl) rf_97_70 ?_
    refine g_bipush dX12_welds_179 rfl ?_
    refine g_iload_n dX12_welds_181 rfl ?_
    refine g_iadd dX12_welds_182 ?_
    refine g_iald dX12_welds_183 sh_132 (al_132 hn) (Nat.le_of_ble_eq_true rfl) o3 ?_
    refine g_iast dX12_welds_184 sh_132 (al_132 hn) (Nat.le_of_ble_eq_true rfl) o4 ?_
    refine g_aload_n dX12_welds_185 rfl ?_
    refine g_getR dX12_welds_186 fl_X12_132 sh_97 (al_97 hn) (fun _ _ _ => rfl) rf_97_68 ?_
    refine g_iload_n dX12_welds_189 rfl ?_
    refine g_aload_n dX12_welds_190 rfl ?_
    refine g_getR dX12_welds_191 fl_X12_132 sh_97 (al_97 hn) (fun _ _ _ => rfl) rf_97_68 ?_
    refine g_bipush dX12_welds_194 rfl ?_
    refine g_iload_n dX12_welds_196 rfl ?_
    refine g_iadd dX12_welds_197 ?_
    refine g_iald dX12_welds_198 sh_130 (al_130 hn) (Nat.le_of_ble_eq_true rfl) o3 ?_
    refine g_iast dX12_welds_199 sh_130 (al_130 hn) (Nat.le_of_ble_eq_true rfl) o4 ?_
    refine g_iinc (ls' := [aP 97, aI (x1 + 1)]) dX12_welds_200 rfl (Nat.le_of_ble_eq_true rfl) rfl rfl ?_
    refine g_goto (tgt := 145) dX12_welds_203 rfl ?_
    exact g_sub (ls' := [aP 97, aI (x1 + 1)]) ⟨Or.inr rfl, Or.inr rfl, trivial⟩ w
theorem e_X12_welds {l : Launch} {D : Nat} {ζ : ZP} {h : HI} {Q : Int → HI → Prop} (hn : 144 ≤ ζ.2.2.2.2) (w : RtV l D mX12_taken (zz ζ) [aP 97, aI 400] (hu h 97 0 0) (fun h1 => RtV l D mX12_next (zz ζ) [aP 97] (hu (hu (hu h1 97 14 0) 133 1 0) 134 1 0) (fun h2 => G l (D + 1) 0 0 mX12_welds (zz ζ) 35 [aP 97, aU] [] h2 (qI (zz ζ) Q)))) : RtI l (D + 1) mX12_welds (zz ζ) [aP 97] h Q := by
  refine RtI.of 1 pn_X12 [aP 97, aU] rfl rfl ?_
  refine g_aload_n dX12_welds_0 rfl ?_
  refine g_iconst dX12_welds_1 ?_
  refine g_putI (J := 0) dX12_welds_2 fl_X12_1 sh_97 (al_97 hn) rfl rfl ?_
  refine g_aload_n dX12_welds_5 rfl ?_
  refine g_sipush dX12_welds_6 rfl ?_
  refine g_callVV (n := 1) (As := [aI 400]) (st := []) dX12_welds_9 ml_X12_292 sh_97 rfl (al_97 hn) rfl rfl (Nat.le_of_ble_eq_true rfl) (RtV.mono w (fun h1 w => ?_))
  refine g_aload_n dX12_welds_12 rfl ?_
  refine g_iconst dX12_welds_13 ?_
  refine g_putI (J := 14) dX12_welds_14 fl_X12_247 sh_97 (al_97 hn) rfl rfl ?_
  refine g_aload_n dX12_welds_17 rfl ?_
  refine g_getR dX12_welds_18 fl_X12_141 sh_97 (al_97 hn) (fun _ _ _ => rfl) rf_97_71 ?_
  refine g_iconst dX12_welds_21 ?_
  refine g_iconst dX12_welds_22 ?_
  refine g_iast dX12_welds_23 sh_133 (al_133 hn) (Nat.le_of_ble_eq_true rfl) (by decide) ?_
  refine g_aload_n dX12_welds_24 rfl ?_
  refine g_getR dX12_welds_25 fl_X12_144 sh_97 (al_97 hn) (fun _ _ _ => rfl) rf_97_72 ?_
  refine g_iconst dX12_welds_28 ?_
  refine g_iconst dX12_welds_29 ?_
  refine g_iast dX12_welds_30 sh_134 (al_134 hn) (Nat.le_of_ble_eq_true rfl) (by decide) ?_
  refine g_aload_n dX12_welds_31 rfl ?_
  refine g_callVV (n := 0) (As := []) (st := []) dX12_welds_32 ml_X12_259 sh_97 rfl (al_97 hn) rfl rfl (Nat.le_of_ble_eq_true rfl) (RtV.mono w (fun h2 w => ?_))
  exact g_sub (ls' := [aP 97, aU]) ⟨Or.inr rfl, Or.inl rfl, trivial⟩ w
theorem b_X12_lift_2 {l : Launch} {D : Nat} {ζ : ZP} {h : HI} {Q : HI → Prop} {x1 x2 : Int} (hn : 144 ≤ ζ.2.2.2.2) (w : (rg x2) ∧ (if 120 ≤ x2 then (G l (D + 1) 0 0 mX12_lift (zz ζ) 23 [aP 97, aI x1, aI 0, aU, aU, aU, aU] [] h (qV (zz ζ) Q)) else ((0 ≤ x2 ∧ x2 < 120) ∧ G l (D + 1) 0 0 mX12_lift (zz ζ) 2 [aP 97, aI x1, aI (x2 + 1), aU, aU, aU, aU] [] (hu h 135 x2 (-1)) (qV (zz ζ) Q)))) : G l (D + 1) 0 0 mX12_lift (zz ζ) 2 [aP 97, aI x1, aI x2, aU, aU, aU, aU] [] h (qV (zz ζ) Q) := by
  refine g_iload_n dX12_lift_2 rfl ?_
  refine g_bipush dX12_lift_3 rfl ?_
  obtain ⟨o1, w⟩ := w
  refine g_cmp_ge (tgt := 21) dX12_lift_5 rfl o1 (by decide) ?_
  refine ite_imp (fun w => ?_) (fun w => ?_) w
  · refine g_iconst dX12_lift_21 ?_
    refine g_istore_n (ls' := [aP 97, aI x1, aI 0, aU, aU, aU, aU]) dX12_lift_22 (Nat.le_of_ble_eq_true rfl) rfl rfl ?_
    exact g_sub (ls' := [aP 97, aI x1, aI 0, aU, aU, aU, aU]) ⟨Or.inr rfl, Or.inr rfl, Or.inr rfl, Or.inl rfl, Or.inl rfl, Or.inl rfl, Or.inl rfl, trivial⟩ w
  · refine g_aload_n dX12_lift_8 rfl ?_
    refine g_getR dX12_lift_9 fl_X12_147 sh_97 (al_97 hn) (fun _ _ _ => rfl) rf_97_73 ?_
    refine g_iload_n dX12_lift_12 rfl ?_
    refine g_iconst dX12_lift_13 ?_
    obtain ⟨o2, w⟩ := w
    refine g_iast dX12_lift_14 sh_135 (al_135 hn) (Nat.le_of_ble_eq_true rfl) o2 ?_
    refine g_iinc (ls' := [aP 97, aI x1, aI (x2 + 1), aU, aU, aU, aU]) dX12_lift_15 rfl (Nat.le_of_ble_eq_true rfl) rfl rfl ?_
    refine g_goto (tgt := 2) dX12_lift_18 rfl ?_
    exact g_sub (ls' := [aP 97, aI x1, aI (x2 + 1), aU, aU, aU, aU]) ⟨Or.inr rfl, Or.inr rfl, Or.inr rfl, Or.inl rfl, Or.inl rfl, Or.inl rfl, Or.inl rfl, trivial⟩ w
theorem b_X12_lift_23 {l : Launch} {D : Nat} {ζ : ZP} {h : HI} {Q : HI → Prop} {x1 x2 : Int} (hn : 144 ≤ ζ.2.2.2.2) (w : (rg x2) ∧ (if 120 ≤ x2 then (Q h) else ((0 ≤ x2 ∧ x2 < 120) ∧ (rg (h 135 x2)) ∧ (if (h 135 x2) < 0 then (G l (D + 1) 0 0 mX12_lift (zz ζ) 67 [aP 97, aI x1, aI x2, aI 1, aI 0, aU, aU] [] (hu (hu (hu h 137 0 x2) 135 x2 x2) 136 x2 0) (qV (zz ζ) Q)) else (G l (D + 1) 0 0 mX12_lift (zz ζ) 23 [aP 97, aI x1, aI (x2 + 1), aU, aU, aU, aU] [] h (qV (zz ζ) Q)))))) : G l (D + 1) 0 0 mX12_lift (zz ζ) 23 [aP 97, aI x1, aI x2, aU, aU, aU, aU] [] h (qV (zz ζ) Q) := by
  refine g_iload_n dX12_lift_23 rfl ?_
  refine g_bipush dX12_lift_24 rfl ?_
  obtain ⟨o1, w⟩ := w
  refine g_cmp_ge (tgt := 237) dX12_lift_26 rfl o1 (by decide) ?_
  refine ite_imp (fun w => ?_) (fun w => ?_) w
  · exact g_retV dX12_lift_237 rfl w
  · refine g_aload_n dX12_lift_29 rfl ?_
    refine g_getR dX12_lift_30 fl_X12_147 sh_97 (al_97 hn) (fun _ _ _ => rfl) rf_97_73 ?_
    refine g_iload_n dX12_lift_33 rfl ?_
    obtain ⟨o2, w⟩ := w
    refine g_iald dX12_lift_34 sh_135 (al_135 hn) (Nat.le_of_ble_eq_true rfl) o2 ?_
    obtain ⟨o3, w⟩ := w
    refine g_if_lt (tgt := 41) dX12_lift_35 rfl o3 ?_
    refine ite_imp (fun w => ?_) (fun w => ?_) w
    · refine g_iconst dX12_lift_41 ?_
      refine g_istore_n (ls' := [aP 97, aI x1, aI x2, aI 1, aU, aU, aU]) dX12_lift_42 (Nat.le_of_ble_eq_true rfl) rfl rfl ?_
      refine g_aload_n dX12_lift_43 rfl ?_
      refine g_getR dX12_lift_44 fl_X12_153 sh_97 (al_97 hn) (fun _ _ _ => rfl) rf_97_75 ?_
      refine g_iconst dX12_lift_47 ?_
      refine g_iload_n dX12_lift_48 rfl ?_
      refine g_iast dX12_lift_49 sh_137 (al_137 hn) (Nat.le_of_ble_eq_true rfl) (by decide) ?_
      refine g_aload_n dX12_lift_50 rfl ?_
      refine g_getR dX12_lift_51 fl_X12_147 sh_97 (al_97 hn) (fun _ _ _ => rfl) rf_97_73 ?_
      refine g_iload_n dX12_lift_54 rfl ?_
      refine g_iload_n dX12_lift_55 rfl ?_
      refine g_iast dX12_lift_56 sh_135 (al_135 hn) (Nat.le_of_ble_eq_true rfl) o2 ?_
      refine g_aload_n dX12_lift_57 rfl ?_
      refine g_getR dX12_lift_58 fl_X12_150 sh_97 (al_97 hn) (fun _ _ _ => rfl) rf_97_74 ?_
      refine g_iload_n dX12_lift_61 rfl ?_
      refine g_iconst dX12_lift_62 ?_
      refine g_iast dX12_lift_63 sh_136 (al_136 hn) (Nat.le_of_ble_eq_true rfl) o2 ?_
      refine g_iconst dX12_lift_64 ?_
      refine g_istore (ls' := [aP 97, aI x1, aI x2, aI 1, aI 0, aU, aU]) dX12_lift_65 (Nat.le_of_ble_eq_true rfl) rfl rfl ?_
      exact g_sub (ls' := [aP 97, aI x1, aI x2, aI 1, aI 0, aU, aU]) ⟨Or.inr rfl, Or.inr rfl, Or.inr rfl, Or.inr rfl, Or.inr rfl, Or.inl rfl, Or.inl rfl, trivial⟩ w
    · refine g_goto (tgt := 231) dX12_lift_38 rfl ?_
      refine g_iinc (ls' := [aP 97, aI x1, aI (x2 + 1), aU, aU, aU, aU]) dX12_lift_231 rfl (Nat.le_of_ble_eq_true rfl) rfl rfl ?_
      refine g_goto (tgt := 23) dX12_lift_234 rfl ?_
      exact g_sub (ls' := [aP 97, aI x1, aI (x2 + 1), aU, aU, aU, aU]) ⟨Or.inr rfl, Or.inr rfl, Or.inr rfl, Or.inl rfl, Or.inl rfl, Or.inl rfl, Or.inl rfl, trivial⟩ w
theorem b_X12_lift_67 {l : Launch} {D : Nat} {ζ : ZP} {h : HI} {Q : HI → Prop} {x1 x2 x3 x4 : Int} (hn : 144 ≤ ζ.2.2.2.2) (w : (rg x4) ∧ (rg x3) ∧ (if x3 ≤ x4 then (G l (D + 1) 0 0 mX12_lift (zz ζ) 23 [aP 97, aI x1, aI (x2 + 1), aU, aU, aU, aU] [] h (qV (zz ζ) Q)) else ((0 ≤ x4 ∧ x4 < 120) ∧ (rg (h 137 x4)) ∧ (rg ((h 137 x4).tmod 2)) ∧ (if ¬ ((h 137 x4).tmod 2) = 0 then ((0 ≤ (h 137 x4) ∧ (h 137 x4) < 120) ∧ (if ¬ ((h 137 x4).tmod 2) = 0 then (RtI l D mX12_comes (zz ζ) [aP 97, aI ((h 137 x4) - 1), aI x2, aI ((h 136 (h 137 x4)) + (-1)), aI x3] h (fun r1 h1 => G l (D + 1) 0 0 mX12_lift (zz ζ) 130 [aP 97, aI x1, aI x2, aI r1, aI x4, aI (h 137 x4), aI 0] [] h1 (qV (zz ζ) Q))) else (RtI l D mX12_comes (zz ζ) [aP 97, aI ((h 137 x4) - 1), aI x2, aI ((h 136 (h 137 x4)) + 1), aI x3] h (fun r2 h2 => G l (D + 1) 0 0 mX12_lift (zz ζ) 130 [aP 97, aI x1, aI x2, aI r2, aI x4, aI (h 137 x4), aI 0] [] h2 (qV (zz ζ) Q))))) else ((0 ≤ (h 137 x4) ∧ (h 137 x4) < 120) ∧ (if ¬ ((h 137 x4).tmod 2) = 0 then (RtI l D mX12_comes (zz ζ) [aP 97, aI ((h 137 x4) + 1), aI x2, aI ((h 136 (h 137 x4)) + (-1)), aI x3] h (fun r3 h3 => G l (D + 1) 0 0 mX12_lift (zz ζ) 130 [aP 97, aI x1, aI x2, aI r3, aI x4, aI (h 137 x4), aI 0] [] h3 (qV (zz ζ) Q))) else (RtI l D mX12_comes (zz ζ) [aP 97, aI ((h 137 x4) + 1), aI x2, aI ((h 136 (h 137 x4)) + 1), aI x3] h (fun r4 h4 => G l (D + 1) 0 0 mX12_lift (zz ζ) 130 [aP 97, aI x1, aI x2, aI r4, aI x4, aI (h 137 x4), aI 0] [] h4 (qV (zz ζ) Q))))))))) : G l (D + 1) 0 0 mX12_lift (zz ζ) 67 [aP 97, aI x1, aI x2, aI x3, aI x4, aU, aU] [] h (qV (zz ζ) Q) := by
  refine g_iload dX12_lift_67 rfl ?_
  refine g_iload_n dX12_lift_69 rfl ?_
  obtain ⟨o1, w⟩ := w
  obtain ⟨o2, w⟩ := w
  refine g_cmp_ge (tgt := 231) dX12_lift_70 rfl o1 o2 ?_
  refine ite_imp (fun w => ?_) (fun w => ?_) w
  · refine g_iinc (ls' := [aP 97, aI x1, aI (x2 + 1), aI x3, aI x4, aU, aU]) dX12_lift_231 rfl (Nat.le_of_ble_eq_true rfl) rfl rfl ?_
    refine g_goto (tgt := 23) dX12_lift_234 rfl ?_
    exact g_sub (ls' := [aP 97, aI x1, aI (x2 + 1), aU, aU, aU, aU]) ⟨Or.inr rfl, Or.inr rfl, Or.inr rfl, Or.inl rfl, Or.inl rfl, Or.inl rfl, Or.inl rfl, trivial⟩ w
  · refine g_aload_n dX12_lift_73 rfl ?_
    refine g_getR dX12_lift_74 fl_X12_153 sh_97 (al_97 hn) (fun _ _ _ => rfl) rf_97_75 ?_
    refine g_iload dX12_lift_77 rfl ?_
    obtain ⟨o3, w⟩ := w
    refine g_iald dX12_lift_79 sh_137 (al_137 hn) (Nat.le_of_ble_eq_true rfl) o3 ?_
    refine g_istore (ls' := [aP 97, aI x1, aI x2, aI x3, aI x4, aI (h 137 x4), aU]) dX12_lift_80 (Nat.le_of_ble_eq_true rfl) rfl rfl ?_
    refine g_aload_n dX12_lift_82 rfl ?_
    refine g_iload dX12_lift_83 rfl ?_
    refine g_iconst dX12_lift_85 ?_
    obtain ⟨o4, w⟩ := w
    refine g_irem dX12_lift_86 o4 (by decide) (by decide) ?_
    obtain ⟨o5, w⟩ := w
    refine g_if_ne (tgt := 97) dX12_lift_87 rfl o5 ?_
    refine ite_imp (fun w => ?_) (fun w => ?_) w
    · refine g_iload dX12_lift_97 rfl ?_
      refine g_iconst dX12_lift_99 ?_
      refine g_isub dX12_lift_100 ?_
      refine g_iload_n dX12_lift_101 rfl ?_
      refine g_aload_n dX12_lift_102 rfl ?_
      refine g_getR dX12_lift_103 fl_X12_150 sh_97 (al_97 hn) (fun _ _ _ => rfl) rf_97_74 ?_
      refine g_iload dX12_lift_106 rfl ?_
      obtain ⟨o6, w⟩ := w
      refine g_iald dX12_lift_108 sh_136 (al_136 hn) (Nat.le_of_ble_eq_true rfl) o6 ?_
      refine g_iload dX12_lift_109 rfl ?_
      refine g_iconst dX12_lift_111 ?_
      refine g_irem dX12_lift_112 o4 (by decide) (by decide) ?_
      refine g_if_ne (tgt := 120) dX12_lift_113 rfl o5 ?_
      refine ite_imp (fun w => ?_) (fun w => ?_) w
      · refine g_iconst dX12_lift_120 ?_
        refine g_iadd dX12_lift_121 ?_
        refine g_iload_n dX12_lift_122 rfl ?_
        refine g_callVI (n := 4) (As := [aI ((h 137 x4) - 1), aI x2, aI ((h 136 (h 137 x4)) + (-1)), aI x3]) (st := []) dX12_lift_123 ml_X12_516 sh_97 rfl (al_97 hn) rfl rfl (Nat.le_of_ble_eq_true rfl) (RtI.mono w (fun r1 h1 w => ?_))
        refine g_istore_n (ls' := [aP 97, aI x1, aI x2, aI r1, aI x4, aI (h 137 x4), aU]) dX12_lift_126 (Nat.le_of_ble_eq_true rfl) rfl rfl ?_
        refine g_iconst dX12_lift_127 ?_
        refine g_istore (ls' := [aP 97, aI x1, aI x2, aI r1, aI x4, aI (h 137 x4), aI 0]) dX12_lift_128 (Nat.le_of_ble_eq_true rfl) rfl rfl ?_
        exact g_sub (ls' := [aP 97, aI x1, aI x2, aI r1, aI x4, aI (h 137 x4), aI 0]) ⟨Or.inr rfl, Or.inr rfl, Or.inr rfl, Or.inr rfl, Or.inr rfl, Or.inr rfl, Or.inr rfl, trivial⟩ w
      · refine g_iconst dX12_lift_116 ?_
        refine g_goto (tgt := 121) dX12_lift_117 rfl ?_
        refine g_iadd dX12_lift_121 ?_
        refine g_iload_n dX12_lift_122 rfl ?_
        refine g_callVI (n := 4) (As := [aI ((h 137 x4) - 1), aI x2, aI ((h 136 (h 137 x4)) + 1), aI x3]) (st := []) dX12_lift_123 ml_X12_516 sh_97 rfl (al_97 hn) rfl rfl (Nat.le_of_ble_eq_true rfl) (RtI.mono w (fun r2 h2 w => ?_))
        refine g_istore_n (ls' := [aP 97, aI x1, aI x2, aI r2, aI x4, aI (h 137 x4), aU]) dX12_lift_126 (Nat.le_of_ble_eq_true rfl) rfl rfl ?_
        refine g_iconst dX12_lift_127 ?_
        refine g_istore (ls' := [aP 97, aI x1, aI x2, aI r2, aI x4, aI (h 137 x4), aI 0]) dX12_lift_128 (Nat.le_of_ble_eq_true rfl) rfl rfl ?_
        exact g_sub (ls' := [aP 97, aI x1, aI x2, aI r2, aI x4, aI (h 137 x4), aI 0]) ⟨Or.inr rfl, Or.inr rfl, Or.inr rfl, Or.inr rfl, Or.inr rfl, Or.inr rfl, Or.inr rfl, trivial⟩ w
    · refine g_iload dX12_lift_90 rfl ?_
      refine g_iconst dX12_lift_92 ?_
      refine g_iadd dX12_lift_93 ?_
      refine g_goto (tgt := 101) dX12_lift_94 rfl ?_
      refine g_iload_n dX12_lift_101 rfl ?_
      refine g_aload_n dX12_lift_102 rfl ?_
      refine g_getR dX12_lift_103 fl_X12_150 sh_97 (al_97 hn) (fun _ _ _ => rfl) rf_97_74 ?_
      refine g_iload dX12_lift_106 rfl ?_
      obtain ⟨o7, w⟩ := w
      refine g_iald dX12_lift_108 sh_136 (al_136 hn) (Nat.le_of_ble_eq_true rfl) o7 ?_
      refine g_iload dX12_lift_109 rfl ?_
      refine g_iconst dX12_lift_111 ?_
      refine g_irem dX12_lift_112 o4 (by decide) (by decide) ?_
      refine g_if_ne (tgt := 120) dX12_lift_113 rfl o5 ?_
      refine ite_imp (fun w => ?_) (fun w => ?_) w
      · refine g_iconst dX12_lift_120 ?_
        refine g_iadd dX12_lift_121 ?_
        refine g_iload_n dX12_lift_122 rfl ?_
        refine g_callVI (n := 4) (As := [aI ((h 137 x4) + 1), aI x2, aI ((h 136 (h 137 x4)) + (-1)), aI x3]) (st := []) dX12_lift_123 ml_X12_516 sh_97 rfl (al_97 hn) rfl rfl (Nat.le_of_ble_eq_true rfl) (RtI.mono w (fun r3 h3 w => ?_))
        refine g_istore_n (ls' := [aP 97, aI x1, aI x2, aI r3, aI x4, aI (h 137 x4), aU]) dX12_lift_126 (Nat.le_of_ble_eq_true rfl) rfl rfl ?_
        refine g_iconst dX12_lift_127 ?_
        refine g_istore (ls' := [aP 97, aI x1, aI x2, aI r3, aI x4, aI (h 137 x4), aI 0]) dX12_lift_128 (Nat.le_of_ble_eq_true rfl) rfl rfl ?_
        exact g_sub (ls' := [aP 97, aI x1, aI x2, aI r3, aI x4, aI (h 137 x4), aI 0]) ⟨Or.inr rfl, Or.inr rfl, Or.inr rfl, Or.inr rfl, Or.inr rfl, Or.inr rfl, Or.inr rfl, trivial⟩ w
      · refine g_iconst dX12_lift_116 ?_
        refine g_goto (tgt := 121) dX12_lift_117 rfl ?_
        refine g_iadd dX12_lift_121 ?_
        refine g_iload_n dX12_lift_122 rfl ?_
        refine g_callVI (n := 4) (As := [aI ((h 137 x4) + 1), aI x2, aI ((h 136 (h 137 x4)) + 1), aI x3]) (st := []) dX12_lift_123 ml_X12_516 sh_97 rfl (al_97 hn) rfl rfl (Nat.le_of_ble_eq_true rfl) (RtI.mono w (fun r4 h4 w => ?_))
        refine g_istore_n (ls' := [aP 97, aI x1, aI x2, aI r4, aI x4, aI (h 137 x4), aU]) dX12_lift_126 (Nat.le_of_ble_eq_true rfl) rfl rfl ?_
        refine g_iconst dX12_lift_127 ?_
        refine g_istore (ls' := [aP 97, aI x1, aI x2, aI r4, aI x4, aI (h 137 x4), aI 0]) dX12_lift_128 (Nat.le_of_ble_eq_true rfl) rfl rfl ?_
        exact g_sub (ls' := [aP 97, aI x1, aI x2, aI r4, aI x4, aI (h 137 x4), aI 0]) ⟨Or.inr rfl, Or.inr rfl, Or.inr rfl, Or.inr rfl, Or.inr rfl, Or.inr rfl, Or.inr rfl, trivial⟩ w
theorem b_X12_lift_130 {l : Launch} {D : Nat} {ζ : ZP} {h : HI} {Q : HI → Prop} {x1 x2 x3 x4 x5 x6 : Int} (hn : 144 ≤ ζ.2.2.2.2) (w : (rg x6) ∧ (rg (h 133 0)) ∧ (if (h 133 0) ≤ x6 then (G l (D + 1) 0 0 mX12_lift (zz ζ) 67 [aP 97, aI x1, aI x2, aI x3, aI (x4 + 1), aU, aU] [] h (qV (zz ζ) Q)) else ((rg (band (bshr x1 x6) 1)) ∧ (if ¬ (band (bshr x1 x6) 1) = 0 then ((0 ≤ x6 ∧ x6 < 24) ∧ (rg (h 127 x6)) ∧ (rg x5) ∧ (if ¬ (h 127 x6) = x5 then ((rg (h 128 x6)) ∧ (if ¬ (h 128 x6) = x5 then (G l (D + 1) 0 0 mX12_lift (zz ζ) 130 [aP 97, aI x1, aI x2, aI x3, aI x4, aI x5, aI (x6 + 1)] [] h (qV (zz ζ) Q)) else ((0 ≤ x5 ∧ x5 < 120) ∧ RtI l D mX12_comes (zz ζ) [aP 97, aI (h 127 x6), aI x2, aI (h 136 x5), aI x3] h (fun r1 h1 => G l (D + 1) 0 0 mX12_lift (zz ζ) 130 [aP 97, aI x1, aI x2, aI r1, aI x4, aI x5, aI (x6 + 1)] [] h1 (qV (zz ζ) Q))))) else ((0 ≤ x5 ∧ x5 < 120) ∧ RtI l D mX12_comes (zz ζ) [aP 97, aI (h 128 x6), aI x2, aI (h 136 x5), aI x3] h (fun r2 h2 => (rg (h2 128 x6)) ∧ (if ¬ (h2 128 x6) = x5 then (G l (D + 1) 0 0 mX12_lift (zz ζ) 130 [aP 97, aI x1, aI x2, aI r2, aI x4, aI x5, aI (x6 + 1)] [] h2 (qV (zz ζ) Q)) else (RtI l D mX12_comes (zz ζ) [aP 97, aI (h2 127 x6), aI x2, aI (h2 136 x5), aI r2] h2 (fun r3 h3 => G l (D + 1) 0 0 mX12_lift (zz ζ) 130 [aP 97, aI x1, aI x2, aI r3, aI x4, aI x5, aI (x6 + 1)] [] h3 (qV (zz ζ) Q)))))))) else (G l (D + 1) 0 0 mX12_lift (zz ζ) 130 [aP 97, aI x1, aI x2, aI x3, aI x4, aI x5, aI (x6 + 1)] [] h (qV (zz ζ) Q)))))) : G l (D + 1) 0 0 mX12_lift (zz ζ) 130 [aP 97, aI x1, aI x2, aI x3, aI x4, aI x5, aI x6] [] h (qV (zz ζ) Q) := by
  refine g_iload dX12_lift_130 rfl ?_
  refine g_aload_n dX12_lift_132 rfl ?_
  refine g_getR dX12_lift_133 fl_X12_141 sh_97 (al_97 hn) (fun _ _ _ => rfl) rf_97_71 ?_
  refine g_iconst dX12_lift_136 ?_
  refine g_iald dX12_lift_137 sh_133 (al_133 hn) (Nat.le_of_ble_eq_true rfl) (by decide) ?_
  obtain ⟨o1, w⟩ := w
  obtain ⟨o2, w⟩ := w
  refine g_cmp_ge (tgt := 225) dX12_lift_138 rfl o1 o2 ?_
  refine ite_imp (fun w => ?_) (fun w => ?_) w
  · refine g_iinc (ls' := [aP 97, aI x1, aI x2, aI x3, aI (x4 + 1), aI x5, aI x6]) dX12_lift_225 rfl (Nat.le_of_ble_eq_true rfl) rfl rfl ?_
    refine g_goto (tgt := 67) dX12_lift_228 rfl ?_
    exact g_sub (ls' := [aP 97, aI x1, aI x2, aI x3, aI (x4 + 1), aU, aU]) ⟨Or.inr rfl, Or.inr rfl, Or.inr rfl, Or.inr rfl, Or.inr rfl, Or.inl rfl, Or.inl rfl, trivial⟩ w
  · refine g_iload_n dX12_lift_141 rfl ?_
    refine g_iload dX12_lift_142 rfl ?_
    refine g_ishr dX12_lift_144 ?_
    refine g_iconst dX12_lift_145 ?_
    refine g_iand dX12_lift_146 ?_
    obtain ⟨o3, w⟩ := w
    refine g_if_ne (tgt := 153) dX12_lift_147 rfl o3 ?_
    refine ite_imp (fun w => ?_) (fun w => ?_) w
    · refine g_aload_n dX12_lift_153 rfl ?_
      refine g_getR dX12_lift_154 fl_X12_123 sh_97 (al_97 hn) (fun _ _ _ => rfl) rf_97_65 ?_
      refine g_iload dX12_lift_157 rfl ?_
      obtain ⟨o4, w⟩ := w
      refine g_iald dX12_lift_159 sh_127 (al_127 hn) (Nat.le_of_ble_eq_true rfl) o4 ?_
      refine g_iload dX12_lift_160 rfl ?_
      obtain ⟨o5, w⟩ := w
      obtain ⟨o6, w⟩ := w
      refine g_cmp_ne (tgt := 186) dX12_lift_162 rfl o5 o6 ?_
      refine ite_imp (fun w => ?_) (fun w => ?_) w
      · refine g_aload_n dX12_lift_186 rfl ?_
        refine g_getR dX12_lift_187 fl_X12_126 sh_97 (al_97 hn) (fun _ _ _ => rfl) rf_97_66 ?_
        refine g_iload dX12_lift_190 rfl ?_
        refine g_iald dX12_lift_192 sh_128 (al_128 hn) (Nat.le_of_ble_eq_true rfl) o4 ?_
        refine g_iload dX12_lift_193 rfl ?_
        obtain ⟨o7, w⟩ := w
        refine g_cmp_ne (tgt := 219) dX12_lift_195 rfl o7 o6 ?_
        refine ite_imp (fun w => ?_) (fun w => ?_) w
        · refine g_iinc (ls' := [aP 97, aI x1, aI x2, aI x3, aI x4, aI x5, aI (x6 + 1)]) dX12_lift_219 rfl (Nat.le_of_ble_eq_true rfl) rfl rfl ?_
          refine g_goto (tgt := 130) dX12_lift_222 rfl ?_
          exact g_sub (ls' := [aP 97, aI x1, aI x2, aI x3, aI x4, aI x5, aI (x6 + 1)]) ⟨Or.inr rfl, Or.inr rfl, Or.inr rfl, Or.inr rfl, Or.inr rfl, Or.inr rfl, Or.inr rfl, trivial⟩ w
        · refine g_aload_n dX12_lift_198 rfl ?_
          refine g_aload_n dX12_lift_199 rfl ?_
          refine g_getR dX12_lift_200 fl_X12_123 sh_97 (al_97 hn) (fun _ _ _ => rfl) rf_97_65 ?_
          refine g_iload dX12_lift_203 rfl ?_
          refine g_iald dX12_lift_205 sh_127 (al_127 hn) (Nat.le_of_ble_eq_true rfl) o4 ?_
          refine g_iload_n dX12_lift_206 rfl ?_
          refine g_aload_n dX12_lift_207 rfl ?_
          refine g_getR dX12_lift_208 fl_X12_150 sh_97 (al_97 hn) (fun _ _ _ => rfl) rf_97_74 ?_
          refine g_iload dX12_lift_211 rfl ?_
          obtain ⟨o8, w⟩ := w
          refine g_iald dX12_lift_213 sh_136 (al_136 hn) (Nat.le_of_ble_eq_true rfl) o8 ?_
          refine g_iload_n dX12_lift_214 rfl ?_
          refine g_callVI (n := 4) (As := [aI (h 127 x6), aI x2, aI (h 136 x5), aI x3]) (st := []) dX12_lift_215 ml_X12_516 sh_97 rfl (al_97 hn) rfl rfl (Nat.le_of_ble_eq_true rfl) (RtI.mono w (fun r1 h1 w => ?_))
          refine g_istore_n (ls' := [aP 97, aI x1, aI x2, aI r1, aI x4, aI x5, aI x6]) dX12_lift_218 (Nat.le_of_ble_eq_true rfl) rfl rfl ?_
          refine g_iinc (ls' := [aP 97, aI x1, aI x2, aI r1, aI x4, aI x5, aI (x6 + 1)]) dX12_lift_219 rfl (Nat.le_of_ble_eq_true rfl) rfl rfl ?_
          refine g_goto (tgt := 130) dX12_lift_222 rfl ?_
          exact g_sub (ls' := [aP 97, aI x1, aI x2, aI r1, aI x4, aI x5, aI (x6 + 1)]) ⟨Or.inr rfl, Or.inr rfl, Or.inr rfl, Or.inr rfl, Or.inr rfl, Or.inr rfl, Or.inr rfl, trivial⟩ w
      · refine g_aload_n dX12_lift_165 rfl ?_
        refine g_aload_n dX12_lift_166 rfl ?_
        refine g_getR dX12_lift_167 fl_X12_126 sh_97 (al_97 hn) (fun _ _ _ => rfl) rf_97_66 ?_
        refine g_iload dX12_lift_170 rfl ?_
        refine g_iald dX12_lift_172 sh_128 (al_128 hn) (Nat.le_of_ble_eq_true rfl) o4 ?_
        refine g_iload_n dX12_lift_173 rfl ?_
        refine g_aload_n dX12_lift_174 rfl ?_
        refine g_getR dX12_lift_175 fl_X12_150 sh_97 (al_97 hn) (fun _ _ _ => rfl) rf_97_74 ?_
        refine g_iload dX12_lift_178 rfl ?_
        obtain ⟨o9, w⟩ := w
        refine g_iald dX12_lift_180 sh_136 (al_136 hn) (Nat.le_of_ble_eq_true rfl) o9 ?_
        refine g_iload_n dX12_lift_181 rfl ?_
        refine g_callVI (n := 4) (As := [aI (h 128 x6), aI x2, aI (h 136 x5), aI x3]) (st := []) dX12_lift_182 ml_X12_516 sh_97 rfl (al_97 hn) rfl rfl (Nat.le_of_ble_eq_true rfl) (RtI.mono w (fun r2 h2 w => ?_))
        refine g_istore_n (ls' := [aP 97, aI x1, aI x2, aI r2, aI x4, aI x5, aI x6]) dX12_lift_185 (Nat.le_of_ble_eq_true rfl) rfl rfl ?_
        refine g_aload_n dX12_lift_186 rfl ?_
        refine g_getR dX12_lift_187 fl_X12_126 sh_97 (al_97 hn) (fun _ _ _ => rfl) rf_97_66 ?_
        refine g_iload dX12_lift_190 rfl ?_
        refine g_iald dX12_lift_192 sh_128 (al_128 hn) (Nat.le_of_ble_eq_true rfl) o4 ?_
        refine g_iload dX12_lift_193 rfl ?_
        obtain ⟨o10, w⟩ := w
        refine g_cmp_ne (tgt := 219) dX12_lift_195 rfl o10 o6 ?_
        refine ite_imp (fun w => ?_) (fun w => ?_) w
        · refine g_iinc (ls' := [aP 97, aI x1, aI x2, aI r2, aI x4, aI x5, aI (x6 + 1)]) dX12_lift_219 rfl (Nat.le_of_ble_eq_true rfl) rfl rfl ?_
          refine g_goto (tgt := 130) dX12_lift_222 rfl ?_
          exact g_sub (ls' := [aP 97, aI x1, aI x2, aI r2, aI x4, aI x5, aI (x6 + 1)]) ⟨Or.inr rfl, Or.inr rfl, Or.inr rfl, Or.inr rfl, Or.inr rfl, Or.inr rfl, Or.inr rfl, trivial⟩ w
        · refine g_aload_n dX12_lift_198 rfl ?_
          refine g_aload_n dX12_lift_199 rfl ?_
          refine g_getR dX12_lift_200 fl_X12_123 sh_97 (al_97 hn) (fun _ _ _ => rfl) rf_97_65 ?_
          refine g_iload dX12_lift_203 rfl ?_
          refine g_iald dX12_lift_205 sh_127 (al_127 hn) (Nat.le_of_ble_eq_true rfl) o4 ?_
          refine g_iload_n dX12_lift_206 rfl ?_
          refine g_aload_n dX12_lift_207 rfl ?_
          refine g_getR dX12_lift_208 fl_X12_150 sh_97 (al_97 hn) (fun _ _ _ => rfl) rf_97_74 ?_
          refine g_iload dX12_lift_211 rfl ?_
          refine g_iald dX12_lift_213 sh_136 (al_136 hn) (Nat.le_of_ble_eq_true rfl) o9 ?_
          refine g_iload_n dX12_lift_214 rfl ?_
          refine g_callVI (n := 4) (As := [aI (h2 127 x6), aI x2, aI (h2 136 x5), aI r2]) (st := []) dX12_lift_215 ml_X12_516 sh_97 rfl (al_97 hn) rfl rfl (Nat.le_of_ble_eq_true rfl) (RtI.mono w (fun r3 h3 w => ?_))
          refine g_istore_n (ls' := [aP 97, aI x1, aI x2, aI r3, aI x4, aI x5, aI x6]) dX12_lift_218 (Nat.le_of_ble_eq_true rfl) rfl rfl ?_
          refine g_iinc (ls' := [aP 97, aI x1, aI x2, aI r3, aI x4, aI x5, aI (x6 + 1)]) dX12_lift_219 rfl (Nat.le_of_ble_eq_true rfl) rfl rfl ?_
          refine g_goto (tgt := 130) dX12_lift_222 rfl ?_
          exact g_sub (ls' := [aP 97, aI x1, aI x2, aI r3, aI x4, aI x5, aI (x6 + 1)]) ⟨Or.inr rfl, Or.inr rfl, Or.inr rfl, Or.inr rfl, Or.inr rfl, Or.inr rfl, Or.inr rfl, trivial⟩ w
    · refine g_goto (tgt := 219) dX12_lift_150 rfl ?_
      refine g_iinc (ls' := [aP 97, aI x1, aI x2, aI x3, aI x4, aI x5, aI (x6 + 1)]) dX12_lift_219 rfl (Nat.le_of_ble_eq_true rfl) rfl rfl ?_
      refine g_goto (tgt := 130) dX12_lift_222 rfl ?_
      exact g_sub (ls' := [aP 97, aI x1, aI x2, aI x3, aI x4, aI x5, aI (x6 + 1)]) ⟨Or.inr rfl, Or.inr rfl, Or.inr rfl, Or.inr rfl, Or.inr rfl, Or.inr rfl, Or.inr rfl, trivial⟩ w
theorem e_X12_lift {l : Launch} {D : Nat} {ζ : ZP} {h : HI} {Q : HI → Prop} {x1 : Int} (hn : 144 ≤ ζ.2.2.2.2) (w : G l (D + 1) 0 0 mX12_lift (zz ζ) 2 [aP 97, aI x1, aI 0, aU, aU, aU, aU] [] h (qV (zz ζ) Q)) : RtV l (D + 1) mX12_lift (zz ζ) [aP 97, aI x1] h Q := by
  refine RtV.of 5 pn_X12 [aP 97, aI x1, aU, aU, aU, aU, aU] rfl rfl ?_
  refine g_iconst dX12_lift_0 ?_
  refine g_istore_n (ls' := [aP 97, aI x1, aI 0, aU, aU, aU, aU]) dX12_lift_1 (Nat.le_of_ble_eq_true rfl) rfl rfl ?_
  exact g_sub (ls' := [aP 97, aI x1, aI 0, aU, aU, aU, aU]) ⟨Or.inr rfl, Or.inr rfl, Or.inr rfl, Or.inl rfl, Or.inl rfl, Or.inl rfl, Or.inl rfl, trivial⟩ w
theorem e_X12_comes {l : Launch} {D : Nat} {ζ : ZP} {h : HI} {Q : Int → HI → Prop} {x1 x2 x3 x4 : Int} (hn : 144 ≤ ζ.2.2.2.2) (w : (0 ≤ x1 ∧ x1 < 120) ∧ (rg (h 135 x1)) ∧ (if (h 135 x1) < 0 then ((0 ≤ x4 ∧ x4 < 120) ∧ Q (x4 + 1) (hu (hu (hu h 135 x1 x2) 136 x1 x3) 137 x4 x1)) else (Q x4 h))) : RtI l (D + 1) mX12_comes (zz ζ) [aP 97, aI x1, aI x2, aI x3, aI x4] h Q := by
  refine RtI.of 0 pn_X12 [aP 97, aI x1, aI x2, aI x3, aI x4] rfl rfl ?_
  refine g_aload_n dX12_comes_0 rfl ?_
  refine g_getR dX12_comes_1 fl_X12_147 sh_97 (al_97 hn) (fun _ _ _ => rfl) rf_97_73 ?_
  refine g_iload_n dX12_comes_4 rfl ?_
  obtain ⟨o1, w⟩ := w
  refine g_iald dX12_comes_5 sh_135 (al_135 hn) (Nat.le_of_ble_eq_true rfl) o1 ?_
  obtain ⟨o2, w⟩ := w
  refine g_if_lt (tgt := 12) dX12_comes_6 rfl o2 ?_
  refine ite_imp (fun w => ?_) (fun w => ?_) w
  · refine g_aload_n dX12_comes_12 rfl ?_
    refine g_getR dX12_comes_13 fl_X12_147 sh_97 (al_97 hn) (fun _ _ _ => rfl) rf_97_73 ?_
    refine g_iload_n dX12_comes_16 rfl ?_
    refine g_iload_n dX12_comes_17 rfl ?_
    refine g_iast dX12_comes_18 sh_135 (al_135 hn) (Nat.le_of_ble_eq_true rfl) o1 ?_
    refine g_aload_n dX12_comes_19 rfl ?_
    refine g_getR dX12_comes_20 fl_X12_150 sh_97 (al_97 hn) (fun _ _ _ => rfl) rf_97_74 ?_
    refine g_iload_n dX12_comes_23 rfl ?_
    refine g_iload_n dX12_comes_24 rfl ?_
    refine g_iast dX12_comes_25 sh_136 (al_136 hn) (Nat.le_of_ble_eq_true rfl) o1 ?_
    refine g_aload_n dX12_comes_26 rfl ?_
    refine g_getR dX12_comes_27 fl_X12_153 sh_97 (al_97 hn) (fun _ _ _ => rfl) rf_97_75 ?_
    refine g_iload dX12_comes_30 rfl ?_
    refine g_iload_n dX12_comes_32 rfl ?_
    obtain ⟨o3, w⟩ := w
    refine g_iast dX12_comes_33 sh_137 (al_137 hn) (Nat.le_of_ble_eq_true rfl) o3 ?_
    refine g_iload dX12_comes_34 rfl ?_
    refine g_iconst dX12_comes_36 ?_
    refine g_iadd dX12_comes_37 ?_
    exact g_retI dX12_comes_38 rfl w
  · refine g_iload dX12_comes_9 rfl ?_
    exact g_retI dX12_comes_11 rfl w
theorem b_X12_shorts_68 {l : Launch} {D : Nat} {ζ : ZP} {h : HI} {Q : Int → HI → Prop} {x2 x3 : Int} (hn : 144 ≤ ζ.2.2.2.2) (w : (rg x3) ∧ (rg (h 134 0)) ∧ (if (h 134 0) ≤ x3 then (Q 0 h) else ((0 ≤ x3 ∧ x3 < 160) ∧ (rg (h 130 x3)) ∧ (rg x2) ∧ (if ¬ (h 130 x3) = x2 then (G l (D + 1) 0 0 mX12_shorts (zz ζ) 68 [aP 97, aU, aI x2, aI (x3 + 1)] [] h (qI (zz ζ) Q)) else ((0 ≤ (h 131 x3) ∧ (h 131 x3) < 120) ∧ (0 ≤ (h 132 x3) ∧ (h 132 x3) < 120) ∧ (rg (h 135 (h 131 x3))) ∧ (rg (h 135 (h 132 x3))) ∧ (if ¬ (h 135 (h 131 x3)) = (h 135 (h 132 x3)) then (G l (D + 1) 0 0 mX12_shorts (zz ζ) 68 [aP 97, aU, aI x2, aI (x3 + 1)] [] h (qI (zz ζ) Q)) else (RtI l D mX12_plain (zz ζ) [aI ((h 136 (h 131 x3)) - (h 136 (h 132 x3)))] h (fun r1 h1 => (rg r1) ∧ (if r1 ≤ 1 then (G l (D + 1) 0 0 mX12_shorts (zz ζ) 68 [aP 97, aU, aI x2, aI (x3 + 1)] [] h1 (qI (zz ζ) Q)) else (Q 1 h1)))))))))) : G l (D + 1) 0 0 mX12_shorts (zz ζ) 68 [aP 97, aU, aI x2, aI x3] [] h (qI (zz ζ) Q) := by
  refine g_iload_n dX12_shorts_68 rfl ?_
  refine g_aload_n dX12_shorts_69 rfl ?_
  refine g_getR dX12_shorts_70 fl_X12_144 sh_97 (al_97 hn) (fun _ _ _ => rfl) rf_97_72 ?_
  refine g_iconst dX12_shorts_73 ?_
  refine g_iald dX12_shorts_74 sh_134 (al_134 hn) (Nat.le_of_ble_eq_true rfl) (by decide) ?_
  obtain ⟨o1, w⟩ := w
  obtain ⟨o2, w⟩ := w
  refine g_cmp_ge (tgt := 151) dX12_shorts_75 rfl o1 o2 ?_
  refine ite_imp (fun w => ?_) (fun w => ?_) w
  · refine g_iconst dX12_shorts_151 ?_
    exact g_retZ dX12_shorts_152 rfl (Or.inl rfl) w
  · refine g_aload_n dX12_shorts_78 rfl ?_
    refine g_getR dX12_shorts_79 fl_X12_132 sh_97 (al_97 hn) (fun _ _ _ => rfl) rf_97_68 ?_
    refine g_iload_n dX12_shorts_82 rfl ?_
    obtain ⟨o3, w⟩ := w
    refine g_iald dX12_shorts_83 sh_130 (al_130 hn) (Nat.le_of_ble_eq_true rfl) o3 ?_
    refine g_iload_n dX12_shorts_84 rfl ?_
    obtain ⟨o4, w⟩ := w
    obtain ⟨o5, w⟩ := w
    refine g_cmp_ne (tgt := 145) dX12_shorts_85 rfl o4 o5 ?_
    refine ite_imp (fun w => ?_) (fun w => ?_) w
    · refine g_iinc (ls' := [aP 97, aU, aI x2, aI (x3 + 1)]) dX12_shorts_145 rfl (Nat.le_of_ble_eq_true rfl) rfl rfl ?_
      refine g_goto (tgt := 68) dX12_shorts_148 rfl ?_
      exact g_sub (ls' := [aP 97, aU, aI x2, aI (x3 + 1)]) ⟨Or.inr rfl, Or.inl rfl, Or.inr rfl, Or.inr rfl, trivial⟩ w
    · refine g_aload_n dX12_shorts_88 rfl ?_
      refine g_getR dX12_shorts_89 fl_X12_147 sh_97 (al_97 hn) (fun _ _ _ => rfl) rf_97_73 ?_
      refine g_aload_n dX12_shorts_92 rfl ?_
      refine g_getR dX12_shorts_93 fl_X12_135 sh_97 (al_97 hn) (fun _ _ _ => rfl) rf_97_69 ?_
      refine g_iload_n dX12_shorts_96 rfl ?_
      refine g_iald dX12_shorts_97 sh_131 (al_131 hn) (Nat.le_of_ble_eq_true rfl) o3 ?_
      obtain ⟨o6, w⟩ := w
      refine g_iald dX12_shorts_98 sh_135 (al_135 hn) (Nat.le_of_ble_eq_true rfl) o6 ?_
      refine g_aload_n dX12_shorts_99 rfl ?_
      refine g_getR dX12_shorts_100 fl_X12_147 sh_97 (al_97 hn) (fun _ _ _ => rfl) rf_97_73 ?_
      refine g_aload_n dX12_shorts_103 rfl ?_
      refine g_getR dX12_shorts_104 fl_X12_138 sh_97 (al_97 hn) (fun _ _ _ => rfl) rf_97_70 ?_
      refine g_iload_n dX12_shorts_107 rfl ?_
      refine g_iald dX12_shorts_108 sh_132 (al_132 hn) (Nat.le_of_ble_eq_true rfl) o3 ?_
      obtain ⟨o7, w⟩ := w
      refine g_iald dX12_shorts_109 sh_135 (al_135 hn) (Nat.le_of_ble_eq_true rfl) o7 ?_
      obtain ⟨o8, w⟩ := w
      obtain ⟨o9, w⟩ := w
      refine g_cmp_ne (tgt := 145) dX12_shorts_110 rfl o8 o9 ?_
      refine ite_imp (fun w => ?_) (fun w => ?_) w
      · refine g_iinc (ls' := [aP 97, aU, aI x2, aI (x3 + 1)]) dX12_shorts_145 rfl (Nat.le_of_ble_eq_true rfl) rfl rfl ?_
        refine g_goto (tgt := 68) dX12_shorts_148 rfl ?_
        exact g_sub (ls' := [aP 97, aU, aI x2, aI (x3 + 1)]) ⟨Or.inr rfl, Or.inl rfl, Or.inr rfl, Or.inr rfl, trivial⟩ w
      · refine g_aload_n dX12_shorts_113 rfl ?_
        refine g_getR dX12_shorts_114 fl_X12_150 sh_97 (al_97 hn) (fun _ _ _ => rfl) rf_97_74 ?_
        refine g_aload_n dX12_shorts_117 rfl ?_
        refine g_getR dX12_shorts_118 fl_X12_135 sh_97 (al_97 hn) (fun _ _ _ => rfl) rf_97_69 ?_
        refine g_iload_n dX12_shorts_121 rfl ?_
        refine g_iald dX12_shorts_122 sh_131 (al_131 hn) (Nat.le_of_ble_eq_true rfl) o3 ?_
        refine g_iald dX12_shorts_123 sh_136 (al_136 hn) (Nat.le_of_ble_eq_true rfl) o6 ?_
        refine g_aload_n dX12_shorts_124 rfl ?_
        refine g_getR dX12_shorts_125 fl_X12_150 sh_97 (al_97 hn) (fun _ _ _ => rfl) rf_97_74 ?_
        refine g_aload_n dX12_shorts_128 rfl ?_
        refine g_getR dX12_shorts_129 fl_X12_138 sh_97 (al_97 hn) (fun _ _ _ => rfl) rf_97_70 ?_
        refine g_iload_n dX12_shorts_132 rfl ?_
        refine g_iald dX12_shorts_133 sh_132 (al_132 hn) (Nat.le_of_ble_eq_true rfl) o3 ?_
        refine g_iald dX12_shorts_134 sh_136 (al_136 hn) (Nat.le_of_ble_eq_true rfl) o7 ?_
        refine g_isub dX12_shorts_135 ?_
        refine g_callSI (n := 1) (As := [aI ((h 136 (h 131 x3)) - (h 136 (h 132 x3)))]) (st := []) dX12_shorts_136 ml_X12_335 rfl rfl (Nat.le_of_ble_eq_true rfl) rfl (RtI.mono w (fun r1 h1 w => ?_))
        refine g_iconst dX12_shorts_139 ?_
        obtain ⟨o10, w⟩ := w
        refine g_cmp_le (tgt := 145) dX12_shorts_140 rfl o10 (by decide) ?_
        refine ite_imp (fun w => ?_) (fun w => ?_) w
        · refine g_iinc (ls' := [aP 97, aU, aI x2, aI (x3 + 1)]) dX12_shorts_145 rfl (Nat.le_of_ble_eq_true rfl) rfl rfl ?_
          refine g_goto (tgt := 68) dX12_shorts_148 rfl ?_
          exact g_sub (ls' := [aP 97, aU, aI x2, aI (x3 + 1)]) ⟨Or.inr rfl, Or.inl rfl, Or.inr rfl, Or.inr rfl, trivial⟩ w
        · refine g_iconst dX12_shorts_143 ?_
          exact g_retZ dX12_shorts_144 rfl (Or.inr rfl) w
theorem e_X12_shorts {l : Launch} {D : Nat} {ζ : ZP} {h : HI} {Q : Int → HI → Prop} {x1 x2 : Int} (hn : 144 ≤ ζ.2.2.2.2) (w : RtV l D mX12_lift (zz ζ) [aP 97, aI x1] h (fun h1 => (0 ≤ x2 ∧ x2 < 24) ∧ (0 ≤ (h1 127 x2) ∧ (h1 127 x2) < 120) ∧ (0 ≤ (h1 128 x2) ∧ (h1 128 x2) < 120) ∧ (rg (h1 135 (h1 127 x2))) ∧ (rg (h1 135 (h1 128 x2))) ∧ (if ¬ (h1 135 (h1 127 x2)) = (h1 135 (h1 128 x2)) then (RtV l D mX12_lift (zz ζ) [aP 97, aI (bor x1 (bshl 1 x2))] h1 (fun h2 => G l (D + 1) 0 0 mX12_shorts (zz ζ) 68 [aP 97, aU, aI x2, aI 0] [] h2 (qI (zz ζ) Q))) else ((rg (h1 136 (h1 127 x2))) ∧ (rg (h1 136 (h1 128 x2))) ∧ (if (h1 136 (h1 127 x2)) = (h1 136 (h1 128 x2)) then (RtV l D mX12_lift (zz ζ) [aP 97, aI (bor x1 (bshl 1 x2))] h1 (fun h3 => G l (D + 1) 0 0 mX12_shorts (zz ζ) 68 [aP 97, aU, aI x2, aI 0] [] h3 (qI (zz ζ) Q))) else (Q 1 h1)))))) : RtI l (D + 1) mX12_shorts (zz ζ) [aP 97, aI x1, aI x2] h Q := by
  refine RtI.of 1 pn_X12 [aP 97, aI x1, aI x2, aU] rfl rfl ?_
  refine g_aload_n dX12_shorts_0 rfl ?_
  refine g_iload_n dX12_shorts_1 rfl ?_
  refine g_callVV (n := 1) (As := [aI x1]) (st := []) dX12_shorts_2 ml_X12_520 sh_97 rfl (al_97 hn) rfl rfl (Nat.le_of_ble_eq_true rfl) (RtV.mono w (fun h1 w => ?_))
  refine g_aload_n dX12_shorts_5 rfl ?_
  refine g_getR dX12_shorts_6 fl_X12_147 sh_97 (al_97 hn) (fun _ _ _ => rfl) rf_97_73 ?_
  refine g_aload_n dX12_shorts_9 rfl ?_
  refine g_getR dX12_shorts_10 fl_X12_123 sh_97 (al_97 hn) (fun _ _ _ => rfl) rf_97_65 ?_
  refine g_iload_n dX12_shorts_13 rfl ?_
  obtain ⟨o1, w⟩ := w
  refine g_iald dX12_shorts_14 sh_127 (al_127 hn) (Nat.le_of_ble_eq_true rfl) o1 ?_
  obtain ⟨o2, w⟩ := w
  refine g_iald dX12_shorts_15 sh_135 (al_135 hn) (Nat.le_of_ble_eq_true rfl) o2 ?_
  refine g_aload_n dX12_shorts_16 rfl ?_
  refine g_getR dX12_shorts_17 fl_X12_147 sh_97 (al_97 hn) (fun _ _ _ => rfl) rf_97_73 ?_
  refine g_aload_n dX12_shorts_20 rfl ?_
  refine g_getR dX12_shorts_21 fl_X12_126 sh_97 (al_97 hn) (fun _ _ _ => rfl) rf_97_66 ?_
  refine g_iload_n dX12_shorts_24 rfl ?_
  refine g_iald dX12_shorts_25 sh_128 (al_128 hn) (Nat.le_of_ble_eq_true rfl) o1 ?_
  obtain ⟨o3, w⟩ := w
  refine g_iald dX12_shorts_26 sh_135 (al_135 hn) (Nat.le_of_ble_eq_true rfl) o3 ?_
  obtain ⟨o4, w⟩ := w
  obtain ⟨o5, w⟩ := w
  refine g_cmp_ne (tgt := 57) dX12_shorts_27 rfl o4 o5 ?_
  refine ite_imp (fun w => ?_) (fun w => ?_) w
  · refine g_aload_n dX12_shorts_57 rfl ?_
    refine g_iload_n dX12_shorts_58 rfl ?_
    refine g_iconst dX12_shorts_59 ?_
    refine g_iload_n dX12_shorts_60 rfl ?_
    refine g_ishl dX12_shorts_61 ?_
    refine g_ior dX12_shorts_62 ?_
    refine g_callVV (n := 1) (As := [aI (bor x1 (bshl 1 x2))]) (st := []) dX12_shorts_63 ml_X12_520 sh_97 rfl (al_97 hn) rfl rfl (Nat.le_of_ble_eq_true rfl) (RtV.mono w (fun h2 w => ?_))
    refine g_iconst dX12_shorts_66 ?_
    refine g_istore_n (ls' := [aP 97, aI x1, aI x2, aI 0]) dX12_shorts_67 (Nat.le_of_ble_eq_true rfl) rfl rfl ?_
    exact g_sub (ls' := [aP 97, aU, aI x2, aI 0]) ⟨Or.inr rfl, Or.inl rfl, Or.inr rfl, Or.inr rfl, trivial⟩ w
  · refine g_aload_n dX12_shorts_30 rfl ?_
    refine g_getR dX12_shorts_31 fl_X12_150 sh_97 (al_97 hn) (fun _ _ _ => rfl) rf_97_74 ?_
    refine g_aload_n dX12_shorts_34 rfl ?_
    refine g_getR dX12_shorts_35 fl_X12_123 sh_97 (al_97 hn) (fun _ _ _ => rfl) rf_97_65 ?_
    refine g_iload_n dX12_shorts_38 rfl ?_
    refine g_iald dX12_shorts_39 sh_127 (al_127 hn) (Nat.le_of_ble_eq_true rfl) o1 ?_
    refine g_iald dX12_shorts_40 sh_136 (al_136 hn) (Nat.le_of_ble_eq_true rfl) o2 ?_
    refine g_aload_n dX12_shorts_41 rfl ?_
    refine g_getR dX12_shorts_42 fl_X12_150 sh_97 (al_97 hn) (fun _ _ _ => rfl) rf_97_74 ?_
    refine g_aload_n dX12_shorts_45 rfl ?_
    refine g_getR dX12_shorts_46 fl_X12_126 sh_97 (al_97 hn) (fun _ _ _ => rfl) rf_97_66 ?_
    refine g_iload_n dX12_shorts_49 rfl ?_
    refine g_iald dX12_shorts_50 sh_128 (al_128 hn) (Nat.le_of_ble_eq_true rfl) o1 ?_
    refine g_iald dX12_shorts_51 sh_136 (al_136 hn) (Nat.le_of_ble_eq_true rfl) o3 ?_
    obtain ⟨o6, w⟩ := w
    obtain ⟨o7, w⟩ := w
    refine g_cmp_eq (tgt := 57) dX12_shorts_52 rfl o6 o7 ?_
    refine ite_imp (fun w => ?_) (fun w => ?_) w
    · refine g_aload_n dX12_shorts_57 rfl ?_
      refine g_iload_n dX12_shorts_58 rfl ?_
      refine g_iconst dX12_shorts_59 ?_
      refine g_iload_n dX12_shorts_60 rfl ?_
      refine g_ishl dX12_shorts_61 ?_
      refine g_ior dX12_shorts_62 ?_
      refine g_callVV (n := 1) (As := [aI (bor x1 (bshl 1 x2))]) (st := []) dX12_shorts_63 ml_X12_520 sh_97 rfl (al_97 hn) rfl rfl (Nat.le_of_ble_eq_true rfl) (RtV.mono w (fun h3 w => ?_))
      refine g_iconst dX12_shorts_66 ?_
      refine g_istore_n (ls' := [aP 97, aI x1, aI x2, aI 0]) dX12_shorts_67 (Nat.le_of_ble_eq_true rfl) rfl rfl ?_
      exact g_sub (ls' := [aP 97, aU, aI x2, aI 0]) ⟨Or.inr rfl, Or.inl rfl, Or.inr rfl, Or.inr rfl, trivial⟩ w
    · refine g_iconst dX12_shorts_55 ?_
      exact g_retZ dX12_shorts_56 rfl (Or.inr rfl) w
theorem e_X12_canNext {l : Launch} {D : Nat} {ζ : ZP} {h : HI} {Q : Int → HI → Prop} {x1 x2 : Int} (hn : 144 ≤ ζ.2.2.2.2) (w : (rg (band (bshr x1 x2) 1)) ∧ (if ¬ (band (bshr x1 x2) 1) = 0 then (Q 0 h) else ((0 ≤ x2 ∧ x2 < 24) ∧ (rg (band (h 129 x2) (bxor x1 (-1)))) ∧ (if ¬ (band (h 129 x2) (bxor x1 (-1))) = 0 then (Q 0 h) else (RtI l D mX12_shorts (zz ζ) [aP 97, aI x1, aI x2] h (fun r1 h1 => (rg r1) ∧ (if ¬ r1 = 0 then (Q 0 h1) else (Q 1 h1)))))))) : RtI l (D + 1) mX12_canNext (zz ζ) [aP 97, aI x1, aI x2] h Q := by
  refine RtI.of 0 pn_X12 [aP 97, aI x1, aI x2] rfl rfl ?_
  refine g_iload_n dX12_canNext_0 rfl ?_
  refine g_iload_n dX12_canNext_1 rfl ?_
  refine g_ishr dX12_canNext_2 ?_
  refine g_iconst dX12_canNext_3 ?_
  refine g_iand dX12_canNext_4 ?_
  obtain ⟨o1, w⟩ := w
  refine g_if_ne (tgt := 34) dX12_canNext_5 rfl o1 ?_
  refine ite_imp (fun w => ?_) (fun w => ?_) w
  · refine g_iconst dX12_canNext_34 ?_
    exact g_retZ dX12_canNext_35 rfl (Or.inl rfl) w
  · refine g_aload_n dX12_canNext_8 rfl ?_
    refine g_getR dX12_canNext_9 fl_X12_129 sh_97 (al_97 hn) (fun _ _ _ => rfl) rf_97_67 ?_
    refine g_iload_n dX12_canNext_12 rfl ?_
    obtain ⟨o2, w⟩ := w
    refine g_iald dX12_canNext_13 sh_129 (al_129 hn) (Nat.le_of_ble_eq_true rfl) o2 ?_
    refine g_iload_n dX12_canNext_14 rfl ?_
    refine g_iconst dX12_canNext_15 ?_
    refine g_ixor dX12_canNext_16 ?_
    refine g_iand dX12_canNext_17 ?_
    obtain ⟨o3, w⟩ := w
    refine g_if_ne (tgt := 34) dX12_canNext_18 rfl o3 ?_
    refine ite_imp (fun w => ?_) (fun w => ?_) w
    · refine g_iconst dX12_canNext_34 ?_
      exact g_retZ dX12_canNext_35 rfl (Or.inl rfl) w
    · refine g_aload_n dX12_canNext_21 rfl ?_
      refine g_iload_n dX12_canNext_22 rfl ?_
      refine g_iload_n dX12_canNext_23 rfl ?_
      refine g_callVI (n := 2) (As := [aI x1, aI x2]) (st := []) dX12_canNext_24 ml_X12_523 sh_97 rfl (al_97 hn) rfl rfl (Nat.le_of_ble_eq_true rfl) (RtI.mono w (fun r1 h1 w => ?_))
      obtain ⟨o4, w⟩ := w
      refine g_if_ne (tgt := 34) dX12_canNext_27 rfl o4 ?_
      refine ite_imp (fun w => ?_) (fun w => ?_) w
      · refine g_iconst dX12_canNext_34 ?_
        exact g_retZ dX12_canNext_35 rfl (Or.inl rfl) w
      · refine g_iconst dX12_canNext_30 ?_
        refine g_goto (tgt := 35) dX12_canNext_31 rfl ?_
        exact g_retZ dX12_canNext_35 rfl (Or.inr rfl) w
theorem b_X12_order_18 {l : Launch} {D : Nat} {ζ : ZP} {h : HI} {Q : Int → HI → Prop} {x1 x2 : Int} (hn : 144 ≤ ζ.2.2.2.2) (w : (rg x2) ∧ (if x2 < 0 then ((rg (h 138 0)) ∧ (if ¬ (h 138 0) = 0 then (G l (D + 1) 0 0 mX12_order (zz ζ) 127 [aP 97, aU, aI 0, aI 0, aU] [] h (qI (zz ζ) Q)) else (Q (-1) h))) else ((rg x1) ∧ (if ¬ x2 = x1 then ((0 ≤ x2 ∧ x2 < 4096) ∧ G l (D + 1) 0 0 mX12_order (zz ζ) 40 [aP 97, aI x1, aI x2, aI 0, aU] [] (hu h 138 x2 0) (qI (zz ζ) Q)) else ((0 ≤ x2 ∧ x2 < 4096) ∧ G l (D + 1) 0 0 mX12_order (zz ζ) 40 [aP 97, aI x1, aI x2, aI 0, aU] [] (hu h 138 x2 1) (qI (zz ζ) Q)))))) : G l (D + 1) 0 0 mX12_order (zz ζ) 18 [aP 97, aI x1, aI x2, aU, aU] [] h (qI (zz ζ) Q) := by
  refine g_iload_n dX12_order_18 rfl ?_
  obtain ⟨o1, w⟩ := w
  refine g_if_lt (tgt := 112) dX12_order_19 rfl o1 ?_
  refine ite_imp (fun w => ?_) (fun w => ?_) w
  · refine g_aload_n dX12_order_112 rfl ?_
    refine g_getR dX12_order_113 fl_X12_156 sh_97 (al_97 hn) (fun _ _ _ => rfl) rf_97_76 ?_
    refine g_iconst dX12_order_116 ?_
    refine g_zald dX12_order_117 sh_138 (al_138 hn) (Nat.le_of_ble_eq_true rfl) (by decide) ?_
    obtain ⟨o2, w⟩ := w
    refine g_if_ne (tgt := 123) dX12_order_118 rfl o2 ?_
    refine ite_imp (fun w => ?_) (fun w => ?_) w
    · refine g_iconst dX12_order_123 ?_
      refine g_istore_n (ls' := [aP 97, aI x1, aI 0, aU, aU]) dX12_order_124 (Nat.le_of_ble_eq_true rfl) rfl rfl ?_
      refine g_iconst dX12_order_125 ?_
      refine g_istore_n (ls' := [aP 97, aI x1, aI 0, aI 0, aU]) dX12_order_126 (Nat.le_of_ble_eq_true rfl) rfl rfl ?_
      exact g_sub (ls' := [aP 97, aU, aI 0, aI 0, aU]) ⟨Or.inr rfl, Or.inl rfl, Or.inr rfl, Or.inr rfl, Or.inl rfl, trivial⟩ w
    · refine g_iconst dX12_order_121 ?_
      exact g_retI dX12_order_122 rfl w
  · refine g_aload_n dX12_order_22 rfl ?_
    refine g_getR dX12_order_23 fl_X12_156 sh_97 (al_97 hn) (fun _ _ _ => rfl) rf_97_76 ?_
    refine g_iload_n dX12_order_26 rfl ?_
    refine g_iload_n dX12_order_27 rfl ?_
    refine g_iload_n dX12_order_28 rfl ?_
    obtain ⟨o3, w⟩ := w
    refine g_cmp_ne (tgt := 36) dX12_order_29 rfl o1 o3 ?_
    refine ite_imp (fun w => ?_) (fun w => ?_) w
    · refine g_iconst dX12_order_36 ?_
      obtain ⟨o4, w⟩ := w
      refine g_zast dX12_order_37 sh_138 (al_138 hn) (Nat.le_of_ble_eq_true rfl) o4 (Or.inl rfl) ?_
      refine g_iconst dX12_order_38 ?_
      refine g_istore_n (ls' := [aP 97, aI x1, aI x2, aI 0, aU]) dX12_order_39 (Nat.le_of_ble_eq_true rfl) rfl rfl ?_
      exact g_sub (ls' := [aP 97, aI x1, aI x2, aI 0, aU]) ⟨Or.inr rfl, Or.inr rfl, Or.inr rfl, Or.inr rfl, Or.inl rfl, trivial⟩ w
    · refine g_iconst dX12_order_32 ?_
      refine g_goto (tgt := 37) dX12_order_33 rfl ?_
      obtain ⟨o5, w⟩ := w
      refine g_zast dX12_order_37 sh_138 (al_138 hn) (Nat.le_of_ble_eq_true rfl) o5 (Or.inr rfl) ?_
      refine g_iconst dX12_order_38 ?_
      refine g_istore_n (ls' := [aP 97, aI x1, aI x2, aI 0, aU]) dX12_order_39 (Nat.le_of_ble_eq_true rfl) rfl rfl ?_
      exact g_sub (ls' := [aP 97, aI x1, aI x2, aI 0, aU]) ⟨Or.inr rfl, Or.inr rfl, Or.inr rfl, Or.inr rfl, Or.inl rfl, trivial⟩ w
theorem b_X12_order_40 {l : Launch} {D : Nat} {ζ : ZP} {h : HI} {Q : Int → HI → Prop} {x1 x2 x3 : Int} (hn : 144 ≤ ζ.2.2.2.2) (w : (rg x3) ∧ (rg (h 133 0)) ∧ (if (h 133 0) ≤ x3 then (G l (D + 1) 0 0 mX12_order (zz ζ) 18 [aP 97, aI x1, aI (x2 + (-1)), aU, aU] [] h (qI (zz ζ) Q)) else ((0 ≤ x2 ∧ x2 < 4096) ∧ (rg (h 138 x2)) ∧ (if ¬ (h 138 x2) = 0 then (G l (D + 1) 0 0 mX12_order (zz ζ) 18 [aP 97, aI x1, aI (x2 + (-1)), aU, aU] [] h (qI (zz ζ) Q)) else ((rg (band (bshr x2 x3) 1)) ∧ (if ¬ (band (bshr x2 x3) 1) = 0 then (G l (D + 1) 0 0 mX12_order (zz ζ) 40 [aP 97, aI x1, aI x2, aI (x3 + 1), aU] [] (hu h 138 x2 0) (qI (zz ζ) Q)) else ((0 ≤ (bor x2 (bshl 1 x3)) ∧ (bor x2 (bshl 1 x3)) < 4096) ∧ (rg (h 138 (bor x2 (bshl 1 x3)))) ∧ (if (h 138 (bor x2 (bshl 1 x3))) = 0 then (G l (D + 1) 0 0 mX12_order (zz ζ) 40 [aP 97, aI x1, aI x2, aI (x3 + 1), aU] [] (hu h 138 x2 0) (qI (zz ζ) Q)) else (RtI l D mX12_canNext (zz ζ) [aP 97, aI x2, aI x3] h (fun r1 h1 => (rg r1) ∧ (if r1 = 0 then (G l (D + 1) 0 0 mX12_order (zz ζ) 40 [aP 97, aI x1, aI x2, aI (x3 + 1), aU] [] (hu h1 138 x2 0) (qI (zz ζ) Q)) else (G l (D + 1) 0 0 mX12_order (zz ζ) 40 [aP 97, aI x1, aI x2, aI (x3 + 1), aU] [] (hu h1 138 x2 1) (qI (zz ζ) Q))))))))))))) : G l (D + 1) 0 0 mX12_order (zz ζ) 40 [aP 97, aI x1, aI x2, aI x3, aU] [] h (qI (zz ζ) Q) := by
  refine g_iload_n dX12_order_40 rfl ?_
  refine g_aload_n dX12_order_41 rfl ?_
  refine g_getR dX12_order_42 fl_X12_141 sh_97 (al_97 hn) (fun _ _ _ => rfl) rf_97_71 ?_
  refine g_iconst dX12_order_45 ?_
  refine g_iald dX12_order_46 sh_133 (al_133 hn) (Nat.le_of_ble_eq_true rfl) (by decide) ?_
  obtain ⟨o1, w⟩ := w
  obtain ⟨o2, w⟩ := w
  refine g_cmp_ge (tgt := 106) dX12_order_47 rfl o1 o2 ?_
  refine ite_imp (fun w => ?_) (fun w => ?_) w
  · refine g_iinc (ls' := [aP 97, aI x1, aI (x2 + (-1)), aI x3, aU]) dX12_order_106 rfl (Nat.le_of_ble_eq_true rfl) rfl rfl ?_
    refine g_goto (tgt := 18) dX12_order_109 rfl ?_
    exact g_sub (ls' := [aP 97, aI x1, aI (x2 + (-1)), aU, aU]) ⟨Or.inr rfl, Or.inr rfl, Or.inr rfl, Or.inl rfl, Or.inl rfl, trivial⟩ w
  · refine g_aload_n dX12_order_50 rfl ?_
    refine g_getR dX12_order_51 fl_X12_156 sh_97 (al_97 hn) (fun _ _ _ => rfl) rf_97_76 ?_
    refine g_iload_n dX12_order_54 rfl ?_
    obtain ⟨o3, w⟩ := w
    refine g_zald dX12_order_55 sh_138 (al_138 hn) (Nat.le_of_ble_eq_true rfl) o3 ?_
    obtain ⟨o4, w⟩ := w
    refine g_if_ne (tgt := 106) dX12_order_56 rfl o4 ?_
    refine ite_imp (fun w => ?_) (fun w => ?_) w
    · refine g_iinc (ls' := [aP 97, aI x1, aI (x2 + (-1)), aI x3, aU]) dX12_order_106 rfl (Nat.le_of_ble_eq_true rfl) rfl rfl ?_
      refine g_goto (tgt := 18) dX12_order_109 rfl ?_
      exact g_sub (ls' := [aP 97, aI x1, aI (x2 + (-1)), aU, aU]) ⟨Or.inr rfl, Or.inr rfl, Or.inr rfl, Or.inl rfl, Or.inl rfl, trivial⟩ w
    · refine g_aload_n dX12_order_59 rfl ?_
      refine g_getR dX12_order_60 fl_X12_156 sh_97 (al_97 hn) (fun _ _ _ => rfl) rf_97_76 ?_
      refine g_iload_n dX12_order_63 rfl ?_
      refine g_iload_n dX12_order_64 rfl ?_
      refine g_iload_n dX12_order_65 rfl ?_
      refine g_ishr dX12_order_66 ?_
      refine g_iconst dX12_order_67 ?_
      refine g_iand dX12_order_68 ?_
      obtain ⟨o5, w⟩ := w
      refine g_if_ne (tgt := 98) dX12_order_69 rfl o5 ?_
      refine ite_imp (fun w => ?_) (fun w => ?_) w
      · refine g_iconst dX12_order_98 ?_
        refine g_zast dX12_order_99 sh_138 (al_138 hn) (Nat.le_of_ble_eq_true rfl) o3 (Or.inl rfl) ?_
        refine g_iinc (ls' := [aP 97, aI x1, aI x2, aI (x3 + 1), aU]) dX12_order_100 rfl (Nat.le_of_ble_eq_true rfl) rfl rfl ?_
        refine g_goto (tgt := 40) dX12_order_103 rfl ?_
        exact g_sub (ls' := [aP 97, aI x1, aI x2, aI (x3 + 1), aU]) ⟨Or.inr rfl, Or.inr rfl, Or.inr rfl, Or.inr rfl, Or.inl rfl, trivial⟩ w
      · refine g_aload_n dX12_order_72 rfl ?_
        refine g_getR dX12_order_73 fl_X12_156 sh_97 (al_97 hn) (fun _ _ _ => rfl) rf_97_76 ?_
        refine g_iload_n dX12_order_76 rfl ?_
        refine g_iconst dX12_order_77 ?_
        refine g_iload_n dX12_order_78 rfl ?_
        refine g_ishl dX12_order_79 ?_
        refine g_ior dX12_order_80 ?_
        obtain ⟨o6, w⟩ := w
        refine g_zald dX12_order_81 sh_138 (al_138 hn) (Nat.le_of_ble_eq_true rfl) o6 ?_
        obtain ⟨o7, w⟩ := w
        refine g_if_eq (tgt := 98) dX12_order_82 rfl o7 ?_
        refine ite_imp (fun w => ?_) (fun w => ?_) w
        · refine g_iconst dX12_order_98 ?_
          refine g_zast dX12_order_99 sh_138 (al_138 hn) (Nat.le_of_ble_eq_true rfl) o3 (Or.inl rfl) ?_
          refine g_iinc (ls' := [aP 97, aI x1, aI x2, aI (x3 + 1), aU]) dX12_order_100 rfl (Nat.le_of_ble_eq_true rfl) rfl rfl ?_
          refine g_goto (tgt := 40) dX12_order_103 rfl ?_
          exact g_sub (ls' := [aP 97, aI x1, aI x2, aI (x3 + 1), aU]) ⟨Or.inr rfl, Or.inr rfl, Or.inr rfl, Or.inr rfl, Or.inl rfl, trivial⟩ w
        · refine g_aload_n dX12_order_85 rfl ?_
          refine g_iload_n dX12_order_86 rfl ?_
          refine g_iload_n dX12_order_87 rfl ?_
          refine g_callVI (n := 2) (As := [aI x2, aI x3]) (st := [aI x2, aP 138]) dX12_order_88 ml_X12_526 sh_97 rfl (al_97 hn) rfl rfl (Nat.le_of_ble_eq_true rfl) (RtI.mono w (fun r1 h1 w => ?_))
          obtain ⟨o8, w⟩ := w
          refine g_if_eq (tgt := 98) dX12_order_91 rfl o8 ?_
          refine ite_imp (fun w => ?_) (fun w => ?_) w
          · refine g_iconst dX12_order_98 ?_
            refine g_zast dX12_order_99 sh_138 (al_138 hn) (Nat.le_of_ble_eq_true rfl) o3 (Or.inl rfl) ?_
            refine g_iinc (ls' := [aP 97, aI x1, aI x2, aI (x3 + 1), aU]) dX12_order_100 rfl (Nat.le_of_ble_eq_true rfl) rfl rfl ?_
            refine g_goto (tgt := 40) dX12_order_103 rfl ?_
            exact g_sub (ls' := [aP 97, aI x1, aI x2, aI (x3 + 1), aU]) ⟨Or.inr rfl, Or.inr rfl, Or.inr rfl, Or.inr rfl, Or.inl rfl, trivial⟩ w
          · refine g_iconst dX12_order_94 ?_
            refine g_goto (tgt := 99) dX12_order_95 rfl ?_
            refine g_zast dX12_order_99 sh_138 (al_138 hn) (Nat.le_of_ble_eq_true rfl) o3 (Or.inr rfl) ?_
            refine g_iinc (ls' := [aP 97, aI x1, aI x2, aI (x3 + 1), aU]) dX12_order_100 rfl (Nat.le_of_ble_eq_true rfl) rfl rfl ?_
            refine g_goto (tgt := 40) dX12_order_103 rfl ?_
            exact g_sub (ls' := [aP 97, aI x1, aI x2, aI (x3 + 1), aU]) ⟨Or.inr rfl, Or.inr rfl, Or.inr rfl, Or.inr rfl, Or.inl rfl, trivial⟩ w
theorem b_X12_order_127 {l : Launch} {D : Nat} {ζ : ZP} {h : HI} {Q : Int → HI → Prop} {x2 x3 : Int} (hn : 144 ≤ ζ.2.2.2.2) (w : (rg x3) ∧ (rg (h 133 0)) ∧ (if (h 133 0) ≤ x3 then (Q (h 133 0) (hu h 97 78 (h 133 0))) else (G l (D + 1) 0 0 mX12_order (zz ζ) 140 [aP 97, aU, aI x2, aI x3, aI 0] [] h (qI (zz ζ) Q)))) : G l (D + 1) 0 0 mX12_order (zz ζ) 127 [aP 97, aU, aI x2, aI x3, aU] [] h (qI (zz ζ) Q) := by
  refine g_iload_n dX12_order_127 rfl ?_
  refine g_aload_n dX12_order_128 rfl ?_
  refine g_getR dX12_order_129 fl_X12_141 sh_97 (al_97 hn) (fun _ _ _ => rfl) rf_97_71 ?_
  refine g_iconst dX12_order_132 ?_
  refine g_iald dX12_order_133 sh_133 (al_133 hn) (Nat.le_of_ble_eq_true rfl) (by decide) ?_
  obtain ⟨o1, w⟩ := w
  obtain ⟨o2, w⟩ := w
  refine g_cmp_ge (tgt := 201) dX12_order_134 rfl o1 o2 ?_
  refine ite_imp (fun w => ?_) (fun w => ?_) w
  · refine g_aload_n dX12_order_201 rfl ?_
    refine g_aload_n dX12_order_202 rfl ?_
    refine g_getR dX12_order_203 fl_X12_141 sh_97 (al_97 hn) (fun _ _ _ => rfl) rf_97_71 ?_
    refine g_iconst dX12_order_206 ?_
    refine g_iald dX12_order_207 sh_133 (al_133 hn) (Nat.le_of_ble_eq_true rfl) (by decide) ?_
    refine g_putI (J := 78) dX12_order_208 fl_X12_529 sh_97 (al_97 hn) rfl rfl ?_
    refine g_aload_n dX12_order_211 rfl ?_
    refine g_getI (J := 78) dX12_order_212 fl_X12_529 sh_97 (al_97 hn) (fun _ _ _ => rfl) rfl ?_
    exact g_retI dX12_order_215 rfl w
  · refine g_iconst dX12_order_137 ?_
    refine g_istore (ls' := [aP 97, aU, aI x2, aI x3, aI 0]) dX12_order_138 (Nat.le_of_ble_eq_true rfl) rfl rfl ?_
    exact g_sub (ls' := [aP 97, aU, aI x2, aI x3, aI 0]) ⟨Or.inr rfl, Or.inl rfl, Or.inr rfl, Or.inr rfl, Or.inr rfl, trivial⟩ w
theorem b_X12_order_140 {l : Launch} {D : Nat} {ζ : ZP} {h : HI} {Q : Int → HI → Prop} {x2 x3 x4 : Int} (hn : 144 ≤ ζ.2.2.2.2) (w : (rg (band (bshr x2 x4) 1)) ∧ (if (band (bshr x2 x4) 1) = 1 then (G l (D + 1) 0 0 mX12_order (zz ζ) 140 [aP 97, aU, aI x2, aI x3, aI (x4 + 1)] [] h (qI (zz ζ) Q)) else ((0 ≤ (bor x2 (bshl 1 x4)) ∧ (bor x2 (bshl 1 x4)) < 4096) ∧ (rg (h 138 (bor x2 (bshl 1 x4)))) ∧ (if (h 138 (bor x2 (bshl 1 x4))) = 0 then (G l (D + 1) 0 0 mX12_order (zz ζ) 140 [aP 97, aU, aI x2, aI x3, aI (x4 + 1)] [] h (qI (zz ζ) Q)) else (RtI l D mX12_canNext (zz ζ) [aP 97, aI x2, aI x4] h (fun r1 h1 => (rg r1) ∧ (if ¬ r1 = 0 then ((0 ≤ x3 ∧ x3 < 12) ∧ G l (D + 1) 0 0 mX12_order (zz ζ) 127 [aP 97, aU, aI (bor x2 (bshl 1 x4)), aI (x3 + 1), aU] [] (hu h1 139 x3 x4) (qI (zz ζ) Q)) else (G l (D + 1) 0 0 mX12_order (zz ζ) 140 [aP 97, aU, aI x2, aI x3, aI (x4 + 1)] [] h1 (qI (zz ζ) Q))))))))) : G l (D + 1) 0 0 mX12_order (zz ζ) 140 [aP 97, aU, aI x2, aI x3, aI x4] [] h (qI (zz ζ) Q) := by
  refine g_iload_n dX12_order_140 rfl ?_
  refine g_iload dX12_order_141 rfl ?_
  refine g_ishr dX12_order_143 ?_
  refine g_iconst dX12_order_144 ?_
  refine g_iand dX12_order_145 ?_
  refine g_iconst dX12_order_146 ?_
  obtain ⟨o1, w⟩ := w
  refine g_cmp_eq (tgt := 174) dX12_order_147 rfl o1 (by decide) ?_
  refine ite_imp (fun w => ?_) (fun w => ?_) w
  · refine g_iinc (ls' := [aP 97, aU, aI x2, aI x3, aI (x4 + 1)]) dX12_order_174 rfl (Nat.le_of_ble_eq_true rfl) rfl rfl ?_
    refine g_goto (tgt := 140) dX12_order_177 rfl ?_
    exact g_sub (ls' := [aP 97, aU, aI x2, aI x3, aI (x4 + 1)]) ⟨Or.inr rfl, Or.inl rfl, Or.inr rfl, Or.inr rfl, Or.inr rfl, trivial⟩ w
  · refine g_aload_n dX12_order_150 rfl ?_
    refine g_getR dX12_order_151 fl_X12_156 sh_97 (al_97 hn) (fun _ _ _ => rfl) rf_97_76 ?_
    refine g_iload_n dX12_order_154 rfl ?_
    refine g_iconst dX12_order_155 ?_
    refine g_iload dX12_order_156 rfl ?_
    refine g_ishl dX12_order_158 ?_
    refine g_ior dX12_order_159 ?_
    obtain ⟨o2, w⟩ := w
    refine g_zald dX12_order_160 sh_138 (al_138 hn) (Nat.le_of_ble_eq_true rfl) o2 ?_
    obtain ⟨o3, w⟩ := w
    refine g_if_eq (tgt := 174) dX12_order_161 rfl o3 ?_
    refine ite_imp (fun w => ?_) (fun w => ?_) w
    · refine g_iinc (ls' := [aP 97, aU, aI x2, aI x3, aI (x4 + 1)]) dX12_order_174 rfl (Nat.le_of_ble_eq_true rfl) rfl rfl ?_
      refine g_goto (tgt := 140) dX12_order_177 rfl ?_
      exact g_sub (ls' := [aP 97, aU, aI x2, aI x3, aI (x4 + 1)]) ⟨Or.inr rfl, Or.inl rfl, Or.inr rfl, Or.inr rfl, Or.inr rfl, trivial⟩ w
    · refine g_aload_n dX12_order_164 rfl ?_
      refine g_iload_n dX12_order_165 rfl ?_
      refine g_iload dX12_order_166 rfl ?_
      refine g_callVI (n := 2) (As := [aI x2, aI x4]) (st := []) dX12_order_168 ml_X12_526 sh_97 rfl (al_97 hn) rfl rfl (Nat.le_of_ble_eq_true rfl) (RtI.mono w (fun r1 h1 w => ?_))
      obtain ⟨o4, w⟩ := w
      refine g_if_ne (tgt := 180) dX12_order_171 rfl o4 ?_
      refine ite_imp (fun w => ?_) (fun w => ?_) w
      · refine g_aload_n dX12_order_180 rfl ?_
        refine g_getR dX12_order_181 fl_X12_159 sh_97 (al_97 hn) (fun _ _ _ => rfl) rf_97_77 ?_
        refine g_iload_n dX12_order_184 rfl ?_
        refine g_iload dX12_order_185 rfl ?_
        obtain ⟨o5, w⟩ := w
        refine g_iast dX12_order_187 sh_139 (al_139 hn) (Nat.le_of_ble_eq_true rfl) o5 ?_
        refine g_iload_n dX12_order_188 rfl ?_
        refine g_iconst dX12_order_189 ?_
        refine g_iload dX12_order_190 rfl ?_
        refine g_ishl dX12_order_192 ?_
        refine g_ior dX12_order_193 ?_
        refine g_istore_n (ls' := [aP 97, aU, aI (bor x2 (bshl 1 x4)), aI x3, aI x4]) dX12_order_194 (Nat.le_of_ble_eq_true rfl) rfl rfl ?_
        refine g_iinc (ls' := [aP 97, aU, aI (bor x2 (bshl 1 x4)), aI (x3 + 1), aI x4]) dX12_order_195 rfl (Nat.le_of_ble_eq_true rfl) rfl rfl ?_
        refine g_goto (tgt := 127) dX12_order_198 rfl ?_
        exact g_sub (ls' := [aP 97, aU, aI (bor x2 (bshl 1 x4)), aI (x3 + 1), aU]) ⟨Or.inr rfl, Or.inl rfl, Or.inr rfl, Or.inr rfl, Or.inl rfl, trivial⟩ w
      · refine g_iinc (ls' := [aP 97, aU, aI x2, aI x3, aI (x4 + 1)]) dX12_order_174 rfl (Nat.le_of_ble_eq_true rfl) rfl rfl ?_
        refine g_goto (tgt := 140) dX12_order_177 rfl ?_
        exact g_sub (ls' := [aP 97, aU, aI x2, aI x3, aI (x4 + 1)]) ⟨Or.inr rfl, Or.inl rfl, Or.inr rfl, Or.inr rfl, Or.inr rfl, trivial⟩ w
theorem e_X12_order {l : Launch} {D : Nat} {ζ : ZP} {h : HI} {Q : Int → HI → Prop} (hn : 144 ≤ ζ.2.2.2.2) (w : G l (D + 1) 0 0 mX12_order (zz ζ) 18 [aP 97, aI ((bshl 1 (h 133 0)) - 1), aI ((bshl 1 (h 133 0)) - 1), aU, aU] [] (hu h 97 0 0) (qI (zz ζ) Q)) : RtI l (D + 1) mX12_order (zz ζ) [aP 97] h Q := by
  refine RtI.of 4 pn_X12 [aP 97, aU, aU, aU, aU] rfl rfl ?_
  refine g_aload_n dX12_order_0 rfl ?_
  refine g_iconst dX12_order_1 ?_
  refine g_putI (J := 0) dX12_order_2 fl_X12_1 sh_97 (al_97 hn) rfl rfl ?_
  refine g_iconst dX12_order_5 ?_
  refine g_aload_n dX12_order_6 rfl ?_
  refine g_getR dX12_order_7 fl_X12_141 sh_97 (al_97 hn) (fun _ _ _ => rfl) rf_97_71 ?_
  refine g_iconst dX12_order_10 ?_
  refine g_iald dX12_order_11 sh_133 (al_133 hn) (Nat.le_of_ble_eq_true rfl) (by decide) ?_
  refine g_ishl dX12_order_12 ?_
  refine g_iconst dX12_order_13 ?_
  refine g_isub dX12_order_14 ?_
  refine g_istore_n (ls' := [aP 97, aI ((bshl 1 (h 133 0)) - 1), aU, aU, aU]) dX12_order_15 (Nat.le_of_ble_eq_true rfl) rfl rfl ?_
  refine g_iload_n dX12_order_16 rfl ?_
  refine g_istore_n (ls' := [aP 97, aI ((bshl 1 (h 133 0)) - 1), aI ((bshl 1 (h 133 0)) - 1), aU, aU]) dX12_order_17 (Nat.le_of_ble_eq_true rfl) rfl rfl ?_
  exact g_sub (ls' := [aP 97, aI ((bshl 1 (h 133 0)) - 1), aI ((bshl 1 (h 133 0)) - 1), aU, aU]) ⟨Or.inr rfl, Or.inr rfl, Or.inr rfl, Or.inl rfl, Or.inl rfl, trivial⟩ w
theorem e_X12_orderAt {l : Launch} {D : Nat} {ζ : ZP} {h : HI} {Q : Int → HI → Prop} {x1 : Int} (hn : 144 ≤ ζ.2.2.2.2) (w : RtI l D mX12_isIn (zz ζ) [aI x1, aI 0, aI ((h 97 78) - 1)] (hu h 97 0 0) (fun r1 h1 => (rg r1) ∧ (if r1 = 0 then (Q (-1) h1) else ((0 ≤ x1 ∧ x1 < 12) ∧ Q (h1 139 x1) h1)))) : RtI l (D + 1) mX12_orderAt (zz ζ) [aP 97, aI x1] h Q := by
  refine RtI.of 0 pn_X12 [aP 97, aI x1] rfl rfl ?_
  refine g_aload_n dX12_orderAt_0 rfl ?_
  refine g_iconst dX12_orderAt_1 ?_
  refine g_putI (J := 0) dX12_orderAt_2 fl_X12_1 sh_97 (al_97 hn) rfl rfl ?_
  refine g_iload_n dX12_orderAt_5 rfl ?_
  refine g_iconst dX12_orderAt_6 ?_
  refine g_aload_n dX12_orderAt_7 rfl ?_
  refine g_getI (J := 78) dX12_orderAt_8 fl_X12_529 sh_97 (al_97 hn) (fun _ _ _ => rfl) rfl ?_
  refine g_iconst dX12_orderAt_11 ?_
  refine g_isub dX12_orderAt_12 ?_
  refine g_callSI (n := 3) (As := [aI x1, aI 0, aI ((h 97 78) - 1)]) (st := []) dX12_orderAt_13 ml_X12_262 rfl rfl (Nat.le_of_ble_eq_true rfl) rfl (RtI.mono w (fun r1 h1 w => ?_))
  obtain ⟨o1, w⟩ := w
  refine g_if_eq (tgt := 28) dX12_orderAt_16 rfl o1 ?_
  refine ite_imp (fun w => ?_) (fun w => ?_) w
  · refine g_iconst dX12_orderAt_28 ?_
    exact g_retI dX12_orderAt_29 rfl w
  · refine g_aload_n dX12_orderAt_19 rfl ?_
    refine g_getR dX12_orderAt_20 fl_X12_159 sh_97 (al_97 hn) (fun _ _ _ => rfl) rf_97_77 ?_
    refine g_iload_n dX12_orderAt_23 rfl ?_
    obtain ⟨o2, w⟩ := w
    refine g_iald dX12_orderAt_24 sh_139 (al_139 hn) (Nat.le_of_ble_eq_true rfl) o2 ?_
    refine g_goto (tgt := 29) dX12_orderAt_25 rfl ?_
    exact g_retI dX12_orderAt_29 rfl w
theorem b_X12_check_16 {l : Launch} {D : Nat} {ζ : ZP} {h : HI} {Q : Int → HI → Prop} {x1 x2 : Int} (hn : 144 ≤ ζ.2.2.2.2) (w : (rg x2) ∧ (rg (h 97 3)) ∧ (if (h 97 3) ≤ x2 then ((rg x1) ∧ (rg ((bshl 1 (h 133 0)) - 1)) ∧ (if ¬ x1 = ((bshl 1 (h 133 0)) - 1) then (Q (h 97 3) h) else (Q (-1) h))) else (RtI l D mX12_octet (zz ζ) [aP 97, aI x2] h (fun r1 h1 => (rg r1) ∧ (rg (h1 133 0)) ∧ (if (h1 133 0) ≤ r1 then (Q x2 h1) else (RtI l D mX12_canNext (zz ζ) [aP 97, aI x1, aI r1] h1 (fun r2 h2 => (rg r2) ∧ (if ¬ r2 = 0 then (G l (D + 1) 0 0 mX12_check (zz ζ) 16 [aP 97, aI (bor x1 (bshl 1 r1)), aI (x2 + 1), aU] [] h2 (qI (zz ζ) Q)) else (Q x2 h2))))))))) : G l (D + 1) 0 0 mX12_check (zz ζ) 16 [aP 97, aI x1, aI x2, aU] [] h (qI (zz ζ) Q) := by
  refine g_iload_n dX12_check_16 rfl ?_
  refine g_aload_n dX12_check_17 rfl ?_
  refine g_getI (J := 3) dX12_check_18 fl_X12_18 sh_97 (al_97 hn) (fun _ _ _ => rfl) rfl ?_
  obtain ⟨o1, w⟩ := w
  obtain ⟨o2, w⟩ := w
  refine g_cmp_ge (tgt := 63) dX12_check_21 rfl o1 o2 ?_
  refine ite_imp (fun w => ?_) (fun w => ?_) w
  · refine g_iload_n dX12_check_63 rfl ?_
    refine g_iconst dX12_check_64 ?_
    refine g_aload_n dX12_check_65 rfl ?_
    refine g_getR dX12_check_66 fl_X12_141 sh_97 (al_97 hn) (fun _ _ _ => rfl) rf_97_71 ?_
    refine g_iconst dX12_check_69 ?_
    refine g_iald dX12_check_70 sh_133 (al_133 hn) (Nat.le_of_ble_eq_true rfl) (by decide) ?_
    refine g_ishl dX12_check_71 ?_
    refine g_iconst dX12_check_72 ?_
    refine g_isub dX12_check_73 ?_
    obtain ⟨o3, w⟩ := w
    obtain ⟨o4, w⟩ := w
    refine g_cmp_ne (tgt := 81) dX12_check_74 rfl o3 o4 ?_
    refine ite_imp (fun w => ?_) (fun w => ?_) w
    · refine g_aload_n dX12_check_81 rfl ?_
      refine g_getI (J := 3) dX12_check_82 fl_X12_18 sh_97 (al_97 hn) (fun _ _ _ => rfl) rfl ?_
      exact g_retI dX12_check_85 rfl w
    · refine g_iconst dX12_check_77 ?_
      refine g_goto (tgt := 85) dX12_check_78 rfl ?_
      exact g_retI dX12_check_85 rfl w
  · refine g_aload_n dX12_check_24 rfl ?_
    refine g_iload_n dX12_check_25 rfl ?_
    refine g_callVI (n := 1) (As := [aI x2]) (st := []) dX12_check_26 ml_X12_400 sh_97 rfl (al_97 hn) rfl rfl (Nat.le_of_ble_eq_true rfl) (RtI.mono w (fun r1 h1 w => ?_))
    refine g_istore_n (ls' := [aP 97, aI x1, aI x2, aI r1]) dX12_check_29 (Nat.le_of_ble_eq_true rfl) rfl rfl ?_
    refine g_iload_n dX12_check_30 rfl ?_
    refine g_aload_n dX12_check_31 rfl ?_
    refine g_getR dX12_check_32 fl_X12_141 sh_97 (al_97 hn) (fun _ _ _ => rfl) rf_97_71 ?_
    refine g_iconst dX12_check_35 ?_
    refine g_iald dX12_check_36 sh_133 (al_133 hn) (Nat.le_of_ble_eq_true rfl) (by decide) ?_
    obtain ⟨o5, w⟩ := w
    obtain ⟨o6, w⟩ := w
    refine g_cmp_ge (tgt := 49) dX12_check_37 rfl o5 o6 ?_
    refine ite_imp (fun w => ?_) (fun w => ?_) w
    · refine g_iload_n dX12_check_49 rfl ?_
      exact g_retI dX12_check_50 rfl w
    · refine g_aload_n dX12_check_40 rfl ?_
      refine g_iload_n dX12_check_41 rfl ?_
      refine g_iload_n dX12_check_42 rfl ?_
      refine g_callVI (n := 2) (As := [aI x1, aI r1]) (st := []) dX12_check_43 ml_X12_526 sh_97 rfl (al_97 hn) rfl rfl (Nat.le_of_ble_eq_true rfl) (RtI.mono w (fun r2 h2 w => ?_))
      obtain ⟨o7, w⟩ := w
      refine g_if_ne (tgt := 51) dX12_check_46 rfl o7 ?_
      refine ite_imp (fun w => ?_) (fun w => ?_) w
      · refine g_iload_n dX12_check_51 rfl ?_
        refine g_iconst dX12_check_52 ?_
        refine g_iload_n dX12_check_53 rfl ?_
        refine g_ishl dX12_check_54 ?_
        refine g_ior dX12_check_55 ?_
        refine g_istore_n (ls' := [aP 97, aI (bor x1 (bshl 1 r1)), aI x2, aI r1]) dX12_check_56 (Nat.le_of_ble_eq_true rfl) rfl rfl ?_
        refine g_iinc (ls' := [aP 97, aI (bor x1 (bshl 1 r1)), aI (x2 + 1), aI r1]) dX12_check_57 rfl (Nat.le_of_ble_eq_true rfl) rfl rfl ?_
        refine g_goto (tgt := 16) dX12_check_60 rfl ?_
        exact g_sub (ls' := [aP 97, aI (bor x1 (bshl 1 r1)), aI (x2 + 1), aU]) ⟨Or.inr rfl, Or.inr rfl, Or.inr rfl, Or.inl rfl, trivial⟩ w
      · refine g_iload_n dX12_check_49 rfl ?_
        exact g_retI dX12_check_50 rfl w
theorem e_X12_check {l : Launch} {D : Nat} {ζ : ZP} {h : HI} {Q : Int → HI → Prop} (hn : 144 ≤ ζ.2.2.2.2) (w : RtV l D mX12_taken (zz ζ) [aP 97, aI 540] (hu h 97 0 0) (fun h1 => G l (D + 1) 0 0 mX12_check (zz ζ) 16 [aP 97, aI 0, aI 0, aU] [] h1 (qI (zz ζ) Q))) : RtI l (D + 1) mX12_check (zz ζ) [aP 97] h Q := by
  refine RtI.of 3 pn_X12 [aP 97, aU, aU, aU] rfl rfl ?_
  refine g_aload_n dX12_check_0 rfl ?_
  refine g_iconst dX12_check_1 ?_
  refine g_putI (J := 0) dX12_check_2 fl_X12_1 sh_97 (al_97 hn) rfl rfl ?_
  refine g_aload_n dX12_check_5 rfl ?_
  refine g_sipush dX12_check_6 rfl ?_
  refine g_callVV (n := 1) (As := [aI 540]) (st := []) dX12_check_9 ml_X12_292 sh_97 rfl (al_97 hn) rfl rfl (Nat.le_of_ble_eq_true rfl) (RtV.mono w (fun h1 w => ?_))
  refine g_iconst dX12_check_12 ?_
  refine g_istore_n (ls' := [aP 97, aI 0, aU, aU]) dX12_check_13 (Nat.le_of_ble_eq_true rfl) rfl rfl ?_
  refine g_iconst dX12_check_14 ?_
  refine g_istore_n (ls' := [aP 97, aI 0, aI 0, aU]) dX12_check_15 (Nat.le_of_ble_eq_true rfl) rfl rfl ?_
  exact g_sub (ls' := [aP 97, aI 0, aI 0, aU]) ⟨Or.inr rfl, Or.inr rfl, Or.inr rfl, Or.inl rfl, trivial⟩ w
theorem b_X12_image_18 {l : Launch} {D : Nat} {ζ : ZP} {h : HI} {Q : Int → HI → Prop} {x1 x2 : Int} (hn : 144 ≤ ζ.2.2.2.2) (w : (rg x2) ∧ (if 2819 ≤ x2 then (G l (D + 1) 0 0 mX12_image (zz ζ) 51 [aP 97, aI x1, aI 0] [] h (qI (zz ζ) Q)) else ((0 ≤ x2 ∧ x2 < 2819) ∧ (0 ≤ ((2819 * x1) + x2) ∧ ((2819 * x1) + x2) < 5638) ∧ G l (D + 1) 0 0 mX12_image (zz ζ) 18 [aP 97, aI x1, aI (x2 + 1)] [] (hu h 140 ((2819 * x1) + x2) (h 99 x2)) (qI (zz ζ) Q)))) : G l (D + 1) 0 0 mX12_image (zz ζ) 18 [aP 97, aI x1, aI x2] [] h (qI (zz ζ) Q) := by
  refine g_iload_n dX12_image_18 rfl ?_
  refine g_sipush dX12_image_19 rfl ?_
  obtain ⟨o1, w⟩ := w
  refine g_cmp_ge (tgt := 49) dX12_image_22 rfl o1 (by decide) ?_
  refine ite_imp (fun w => ?_) (fun w => ?_) w
  · refine g_iconst dX12_image_49 ?_
    refine g_istore_n (ls' := [aP 97, aI x1, aI 0]) dX12_image_50 (Nat.le_of_ble_eq_true rfl) rfl rfl ?_
    exact g_sub (ls' := [aP 97, aI x1, aI 0]) ⟨Or.inr rfl, Or.inr rfl, Or.inr rfl, trivial⟩ w
  · refine g_aload_n dX12_image_25 rfl ?_
    refine g_getR dX12_image_26 fl_X12_162 sh_97 (al_97 hn) (fun _ _ _ => rfl) rf_97_79 ?_
    refine g_sipush dX12_image_29 rfl ?_
    refine g_iload_n dX12_image_32 rfl ?_
    refine g_imul dX12_image_33 ?_
    refine g_iload_n dX12_image_34 rfl ?_
    refine g_iadd dX12_image_35 ?_
    refine g_aload_n dX12_image_36 rfl ?_
    refine g_getR dX12_image_37 fl_X12_33 sh_97 (al_97 hn) (fun _ _ _ => rfl) rf_97_6 ?_
    refine g_iload_n dX12_image_40 rfl ?_
    obtain ⟨o2, w⟩ := w
    refine g_iald dX12_image_41 sh_99 (al_99 hn) (Nat.le_of_ble_eq_true rfl) o2 ?_
    obtain ⟨o3, w⟩ := w
    refine g_iast dX12_image_42 sh_140 (al_140 hn) (Nat.le_of_ble_eq_true rfl) o3 ?_
    refine g_iinc (ls' := [aP 97, aI x1, aI (x2 + 1)]) dX12_image_43 rfl (Nat.le_of_ble_eq_true rfl) rfl rfl ?_
    refine g_goto (tgt := 18) dX12_image_46 rfl ?_
    exact g_sub (ls' := [aP 97, aI x1, aI (x2 + 1)]) ⟨Or.inr rfl, Or.inr rfl, Or.inr rfl, trivial⟩ w
theorem b_X12_image_51 {l : Launch} {D : Nat} {ζ : ZP} {h : HI} {Q : Int → HI → Prop} {x1 x2 : Int} (hn : 144 ≤ ζ.2.2.2.2) (w : (rg x2) ∧ (if 14 ≤ x2 then ((0 ≤ x1 ∧ x1 < 2) ∧ Q 1 (hu h 142 x1 1)) else ((0 ≤ x2 ∧ x2 < 28) ∧ (0 ≤ ((14 * x1) + x2) ∧ ((14 * x1) + x2) < 28) ∧ G l (D + 1) 0 0 mX12_image (zz ζ) 51 [aP 97, aI x1, aI (x2 + 1)] [] (hu h 141 ((14 * x1) + x2) (h 101 x2)) (qI (zz ζ) Q)))) : G l (D + 1) 0 0 mX12_image (zz ζ) 51 [aP 97, aI x1, aI x2] [] h (qI (zz ζ) Q) := by
  refine g_iload_n dX12_image_51 rfl ?_
  refine g_bipush dX12_image_52 rfl ?_
  obtain ⟨o1, w⟩ := w
  refine g_cmp_ge (tgt := 80) dX12_image_54 rfl o1 (by decide) ?_
  refine ite_imp (fun w => ?_) (fun w => ?_) w
  · refine g_aload_n dX12_image_80 rfl ?_
    refine g_getR dX12_image_81 fl_X12_168 sh_97 (al_97 hn) (fun _ _ _ => rfl) rf_97_81 ?_
    refine g_iload_n dX12_image_84 rfl ?_
    refine g_iconst dX12_image_85 ?_
    obtain ⟨o2, w⟩ := w
    refine g_zast dX12_image_86 sh_142 (al_142 hn) (Nat.le_of_ble_eq_true rfl) o2 (Or.inr rfl) ?_
    refine g_iconst dX12_image_87 ?_
    exact g_retZ dX12_image_88 rfl (Or.inr rfl) w
  · refine g_aload_n dX12_image_57 rfl ?_
    refine g_getR dX12_image_58 fl_X12_165 sh_97 (al_97 hn) (fun _ _ _ => rfl) rf_97_80 ?_
    refine g_bipush dX12_image_61 rfl ?_
    refine g_iload_n dX12_image_63 rfl ?_
    refine g_imul dX12_image_64 ?_
    refine g_iload_n dX12_image_65 rfl ?_
    refine g_iadd dX12_image_66 ?_
    refine g_aload_n dX12_image_67 rfl ?_
    refine g_getR dX12_image_68 fl_X12_40 sh_97 (al_97 hn) (fun _ _ _ => rfl) rf_97_8 ?_
    refine g_iload_n dX12_image_71 rfl ?_
    obtain ⟨o3, w⟩ := w
    refine g_lald dX12_image_72 sh_101 (al_101 hn) (Nat.le_of_ble_eq_true rfl) o3 ?_
    obtain ⟨o4, w⟩ := w
    refine g_last dX12_image_73 sh_141 (al_141 hn) (Nat.le_of_ble_eq_true rfl) o4 ?_
    refine g_iinc (ls' := [aP 97, aI x1, aI (x2 + 1)]) dX12_image_74 rfl (Nat.le_of_ble_eq_true rfl) rfl rfl ?_
    refine g_goto (tgt := 51) dX12_image_77 rfl ?_
    exact g_sub (ls' := [aP 97, aI x1, aI (x2 + 1)]) ⟨Or.inr rfl, Or.inr rfl, Or.inr rfl, trivial⟩ w
theorem e_X12_image {l : Launch} {D : Nat} {ζ : ZP} {h : HI} {Q : Int → HI → Prop} {x1 : Int} (hn : 144 ≤ ζ.2.2.2.2) (w : RtI l D mX12_isIn (zz ζ) [aI x1, aI 0, aI 1] (hu h 97 0 0) (fun r1 h1 => (rg r1) ∧ (if ¬ r1 = 0 then (G l (D + 1) 0 0 mX12_image (zz ζ) 18 [aP 97, aI x1, aI 0] [] h1 (qI (zz ζ) Q)) else (Q 0 h1)))) : RtI l (D + 1) mX12_image (zz ζ) [aP 97, aI x1] h Q := by
  refine RtI.of 1 pn_X12 [aP 97, aI x1, aU] rfl rfl ?_
  refine g_aload_n dX12_image_0 rfl ?_
  refine g_iconst dX12_image_1 ?_
  refine g_putI (J := 0) dX12_image_2 fl_X12_1 sh_97 (al_97 hn) rfl rfl ?_
  refine g_iload_n dX12_image_5 rfl ?_
  refine g_iconst dX12_image_6 ?_
  refine g_iconst dX12_image_7 ?_
  refine g_callSI (n := 3) (As := [aI x1, aI 0, aI 1]) (st := []) dX12_image_8 ml_X12_262 rfl rfl (Nat.le_of_ble_eq_true rfl) rfl (RtI.mono w (fun r1 h1 w => ?_))
  obtain ⟨o1, w⟩ := w
  refine g_if_ne (tgt := 16) dX12_image_11 rfl o1 ?_
  refine ite_imp (fun w => ?_) (fun w => ?_) w
  · refine g_iconst dX12_image_16 ?_
    refine g_istore_n (ls' := [aP 97, aI x1, aI 0]) dX12_image_17 (Nat.le_of_ble_eq_true rfl) rfl rfl ?_
    exact g_sub (ls' := [aP 97, aI x1, aI 0]) ⟨Or.inr rfl, Or.inr rfl, Or.inr rfl, trivial⟩ w
  · refine g_iconst dX12_image_14 ?_
    exact g_retZ dX12_image_15 rfl (Or.inl rfl) w
theorem b_X12_restore_27 {l : Launch} {D : Nat} {ζ : ZP} {h : HI} {Q : Int → HI → Prop} {x1 x2 : Int} (hn : 144 ≤ ζ.2.2.2.2) (w : (rg x2) ∧ (if 2819 ≤ x2 then (G l (D + 1) 0 0 mX12_restore (zz ζ) 60 [aP 97, aI x1, aI 0] [] h (qI (zz ζ) Q)) else ((0 ≤ ((2819 * x1) + x2) ∧ ((2819 * x1) + x2) < 5638) ∧ (0 ≤ x2 ∧ x2 < 2819) ∧ G l (D + 1) 0 0 mX12_restore (zz ζ) 27 [aP 97, aI x1, aI (x2 + 1)] [] (hu h 99 x2 (h 140 ((2819 * x1) + x2))) (qI (zz ζ) Q)))) : G l (D + 1) 0 0 mX12_restore (zz ζ) 27 [aP 97, aI x1, aI x2] [] h (qI (zz ζ) Q) := by
  refine g_iload_n dX12_restore_27 rfl ?_
  refine g_sipush dX12_restore_28 rfl ?_
  obtain ⟨o1, w⟩ := w
  refine g_cmp_ge (tgt := 58) dX12_restore_31 rfl o1 (by decide) ?_
  refine ite_imp (fun w => ?_) (fun w => ?_) w
  · refine g_iconst dX12_restore_58 ?_
    refine g_istore_n (ls' := [aP 97, aI x1, aI 0]) dX12_restore_59 (Nat.le_of_ble_eq_true rfl) rfl rfl ?_
    exact g_sub (ls' := [aP 97, aI x1, aI 0]) ⟨Or.inr rfl, Or.inr rfl, Or.inr rfl, trivial⟩ w
  · refine g_aload_n dX12_restore_34 rfl ?_
    refine g_getR dX12_restore_35 fl_X12_33 sh_97 (al_97 hn) (fun _ _ _ => rfl) rf_97_6 ?_
    refine g_iload_n dX12_restore_38 rfl ?_
    refine g_aload_n dX12_restore_39 rfl ?_
    refine g_getR dX12_restore_40 fl_X12_162 sh_97 (al_97 hn) (fun _ _ _ => rfl) rf_97_79 ?_
    refine g_sipush dX12_restore_43 rfl ?_
    refine g_iload_n dX12_restore_46 rfl ?_
    refine g_imul dX12_restore_47 ?_
    refine g_iload_n dX12_restore_48 rfl ?_
    refine g_iadd dX12_restore_49 ?_
    obtain ⟨o2, w⟩ := w
    refine g_iald dX12_restore_50 sh_140 (al_140 hn) (Nat.le_of_ble_eq_true rfl) o2 ?_
    obtain ⟨o3, w⟩ := w
    refine g_iast dX12_restore_51 sh_99 (al_99 hn) (Nat.le_of_ble_eq_true rfl) o3 ?_
    refine g_iinc (ls' := [aP 97, aI x1, aI (x2 + 1)]) dX12_restore_52 rfl (Nat.le_of_ble_eq_true rfl) rfl rfl ?_
    refine g_goto (tgt := 27) dX12_restore_55 rfl ?_
    exact g_sub (ls' := [aP 97, aI x1, aI (x2 + 1)]) ⟨Or.inr rfl, Or.inr rfl, Or.inr rfl, trivial⟩ w
theorem b_X12_restore_60 {l : Launch} {D : Nat} {ζ : ZP} {h : HI} {Q : Int → HI → Prop} {x1 x2 : Int} (hn : 144 ≤ ζ.2.2.2.2) (w : (rg x2) ∧ (if 14 ≤ x2 then (Q 1 h) else ((0 ≤ ((14 * x1) + x2) ∧ ((14 * x1) + x2) < 28) ∧ (0 ≤ x2 ∧ x2 < 28) ∧ G l (D + 1) 0 0 mX12_restore (zz ζ) 60 [aP 97, aI x1, aI (x2 + 1)] [] (hu h 101 x2 (h 141 ((14 * x1) + x2))) (qI (zz ζ) Q)))) : G l (D + 1) 0 0 mX12_restore (zz ζ) 60 [aP 97, aI x1, aI x2] [] h (qI (zz ζ) Q) := by
  refine g_iload_n dX12_restore_60 rfl ?_
  refine g_bipush dX12_restore_61 rfl ?_
  obtain ⟨o1, w⟩ := w
  refine g_cmp_ge (tgt := 89) dX12_restore_63 rfl o1 (by decide) ?_
  refine ite_imp (fun w => ?_) (fun w => ?_) w
  · refine g_iconst dX12_restore_89 ?_
    exact g_retZ dX12_restore_90 rfl (Or.inr rfl) w
  · refine g_aload_n dX12_restore_66 rfl ?_
    refine g_getR dX12_restore_67 fl_X12_40 sh_97 (al_97 hn) (fun _ _ _ => rfl) rf_97_8 ?_
    refine g_iload_n dX12_restore_70 rfl ?_
    refine g_aload_n dX12_restore_71 rfl ?_
    refine g_getR dX12_restore_72 fl_X12_165 sh_97 (al_97 hn) (fun _ _ _ => rfl) rf_97_80 ?_
    refine g_bipush dX12_restore_75 rfl ?_
    refine g_iload_n dX12_restore_77 rfl ?_
    refine g_imul dX12_restore_78 ?_
    refine g_iload_n dX12_restore_79 rfl ?_
    refine g_iadd dX12_restore_80 ?_
    obtain ⟨o2, w⟩ := w
    refine g_lald dX12_restore_81 sh_141 (al_141 hn) (Nat.le_of_ble_eq_true rfl) o2 ?_
    obtain ⟨o3, w⟩ := w
    refine g_last dX12_restore_82 sh_101 (al_101 hn) (Nat.le_of_ble_eq_true rfl) o3 ?_
    refine g_iinc (ls' := [aP 97, aI x1, aI (x2 + 1)]) dX12_restore_83 rfl (Nat.le_of_ble_eq_true rfl) rfl rfl ?_
    refine g_goto (tgt := 60) dX12_restore_86 rfl ?_
    exact g_sub (ls' := [aP 97, aI x1, aI (x2 + 1)]) ⟨Or.inr rfl, Or.inr rfl, Or.inr rfl, trivial⟩ w
theorem e_X12_restore {l : Launch} {D : Nat} {ζ : ZP} {h : HI} {Q : Int → HI → Prop} {x1 : Int} (hn : 144 ≤ ζ.2.2.2.2) (w : RtI l D mX12_isIn (zz ζ) [aI x1, aI 0, aI 1] (hu h 97 0 0) (fun r1 h1 => (rg r1) ∧ (if r1 = 0 then (Q 0 h1) else ((0 ≤ x1 ∧ x1 < 2) ∧ (rg (h1 142 x1)) ∧ (if ¬ (h1 142 x1) = 0 then (G l (D + 1) 0 0 mX12_restore (zz ζ) 27 [aP 97, aI x1, aI 0] [] h1 (qI (zz ζ) Q)) else (Q 0 h1)))))) : RtI l (D + 1) mX12_restore (zz ζ) [aP 97, aI x1] h Q := by
  refine RtI.of 1 pn_X12 [aP 97, aI x1, aU] rfl rfl ?_
  refine g_aload_n dX12_restore_0 rfl ?_
  refine g_iconst dX12_restore_1 ?_
  refine g_putI (J := 0) dX12_restore_2 fl_X12_1 sh_97 (al_97 hn) rfl rfl ?_
  refine g_iload_n dX12_restore_5 rfl ?_
  refine g_iconst dX12_restore_6 ?_
  refine g_iconst dX12_restore_7 ?_
  refine g_callSI (n := 3) (As := [aI x1, aI 0, aI 1]) (st := []) dX12_restore_8 ml_X12_262 rfl rfl (Nat.le_of_ble_eq_true rfl) rfl (RtI.mono w (fun r1 h1 w => ?_))
  obtain ⟨o1, w⟩ := w
  refine g_if_eq (tgt := 23) dX12_restore_11 rfl o1 ?_
  refine ite_imp (fun w => ?_) (fun w => ?_) w
  · refine g_iconst dX12_restore_23 ?_
    exact g_retZ dX12_restore_24 rfl (Or.inl rfl) w
  · refine g_aload_n dX12_restore_14 rfl ?_
    refine g_getR dX12_restore_15 fl_X12_168 sh_97 (al_97 hn) (fun _ _ _ => rfl) rf_97_81 ?_
    refine g_iload_n dX12_restore_18 rfl ?_
    obtain ⟨o2, w⟩ := w
    refine g_zald dX12_restore_19 sh_142 (al_142 hn) (Nat.le_of_ble_eq_true rfl) o2 ?_
    obtain ⟨o3, w⟩ := w
    refine g_if_ne (tgt := 25) dX12_restore_20 rfl o3 ?_
    refine ite_imp (fun w => ?_) (fun w => ?_) w
    · refine g_iconst dX12_restore_25 ?_
      refine g_istore_n (ls' := [aP 97, aI x1, aI 0]) dX12_restore_26 (Nat.le_of_ble_eq_true rfl) rfl rfl ?_
      exact g_sub (ls' := [aP 97, aI x1, aI 0]) ⟨Or.inr rfl, Or.inr rfl, Or.inr rfl, trivial⟩ w
    · refine g_iconst dX12_restore_23 ?_
      exact g_retZ dX12_restore_24 rfl (Or.inl rfl) w
theorem e_X12_count {l : Launch} {D : Nat} {ζ : ZP} {h : HI} {Q : Int → HI → Prop} {x1 : Int} (hn : 144 ≤ ζ.2.2.2.2) (w : (rg x1) ∧ (x1 = 0 → (Q (h 99 0) (hu h 97 0 0))) ∧ (x1 = 1 → (Q (h 99 1) (hu h 97 0 0))) ∧ (x1 = 2 → (Q (h 99 11) (hu h 97 0 0))) ∧ (x1 = 3 → (Q (h 99 12) (hu h 97 0 0))) ∧ (x1 = 4 → (Q (h 99 13) (hu h 97 0 0))) ∧ (x1 = 5 → (Q (h 99 14) (hu h 97 0 0))) ∧ (x1 = 6 → (Q (h 99 15) (hu h 97 0 0))) ∧ (x1 = 7 → (Q (h 133 0) (hu h 97 0 0))) ∧ (x1 = 8 → (Q (h 97 2) (hu h 97 0 0))) ∧ (x1 < 0 ∨ 8 < x1 → (Q (-1) (hu h 97 0 0)))) : RtI l (D + 1) mX12_count (zz ζ) [aP 97, aI x1] h Q := by
  refine RtI.of 0 pn_X12 [aP 97, aI x1] rfl rfl ?_
  refine g_aload_n dX12_count_0 rfl ?_
  refine g_iconst dX12_count_1 ?_
  refine g_putI (J := 0) dX12_count_2 fl_X12_1 sh_97 (al_97 hn) rfl rfl ?_
  refine g_iload_n dX12_count_5 rfl ?_
  obtain ⟨o1, w⟩ := w
  obtain ⟨w0, w1, w2, w3, w4, w5, w6, w7, w8, w9⟩ := w
  by_cases hout : x1 < 0 ∨ 8 < x1
  · refine g_tabOut (tgt := 122) dX12_count_6 o1 hout rfl ?_
    have w := w9 hout
    refine g_iconst dX12_count_122 ?_
    exact g_retI dX12_count_123 rfl w
  by_cases hc0 : x1 = 0
  · have w := w0 hc0
    refine g_tabIn (tgt := 56) dX12_count_6 o1 (by omega) (by omega) (by rw [hc0]; rfl) rfl ?_
    refine g_aload_n dX12_count_56 rfl ?_
    refine g_getR dX12_count_57 fl_X12_33 sh_97 (al_97 hn) (fun _ _ _ => rfl) rf_97_6 ?_
    refine g_iconst dX12_count_60 ?_
    refine g_iald dX12_count_61 sh_99 (al_99 hn) (Nat.le_of_ble_eq_true rfl) (by decide) ?_
    exact g_retI dX12_count_62 rfl w
  by_cases hc1 : x1 = 1
  · have w := w1 hc1
    refine g_tabIn (tgt := 63) dX12_count_6 o1 (by omega) (by omega) (by rw [hc1]; rfl) rfl ?_
    refine g_aload_n dX12_count_63 rfl ?_
    refine g_getR dX12_count_64 fl_X12_33 sh_97 (al_97 hn) (fun _ _ _ => rfl) rf_97_6 ?_
    refine g_iconst dX12_count_67 ?_
    refine g_iald dX12_count_68 sh_99 (al_99 hn) (Nat.le_of_ble_eq_true rfl) (by decide) ?_
    exact g_retI dX12_count_69 rfl w
  by_cases hc2 : x1 = 2
  · have w := w2 hc2
    refine g_tabIn (tgt := 70) dX12_count_6 o1 (by omega) (by omega) (by rw [hc2]; rfl) rfl ?_
    refine g_aload_n dX12_count_70 rfl ?_
    refine g_getR dX12_count_71 fl_X12_33 sh_97 (al_97 hn) (fun _ _ _ => rfl) rf_97_6 ?_
    refine g_bipush dX12_count_74 rfl ?_
    refine g_iald dX12_count_76 sh_99 (al_99 hn) (Nat.le_of_ble_eq_true rfl) (by decide) ?_
    exact g_retI dX12_count_77 rfl w
  by_cases hc3 : x1 = 3
  · have w := w3 hc3
    refine g_tabIn (tgt := 78) dX12_count_6 o1 (by omega) (by omega) (by rw [hc3]; rfl) rfl ?_
    refine g_aload_n dX12_count_78 rfl ?_
    refine g_getR dX12_count_79 fl_X12_33 sh_97 (al_97 hn) (fun _ _ _ => rfl) rf_97_6 ?_
    refine g_bipush dX12_count_82 rfl ?_
    refine g_iald dX12_count_84 sh_99 (al_99 hn) (Nat.le_of_ble_eq_true rfl) (by decide) ?_
    exact g_retI dX12_count_85 rfl w
  by_cases hc4 : x1 = 4
  · have w := w4 hc4
    refine g_tabIn (tgt := 86) dX12_count_6 o1 (by omega) (by omega) (by rw [hc4]; rfl) rfl ?_
    refine g_aload_n dX12_count_86 rfl ?_
    refine g_getR dX12_count_87 fl_X12_33 sh_97 (al_97 hn) (fun _ _ _ => rfl) rf_97_6 ?_
    refine g_bipush dX12_count_90 rfl ?_
    refine g_iald dX12_count_92 sh_99 (al_99 hn) (Nat.le_of_ble_eq_true rfl) (by decide) ?_
    exact g_retI dX12_count_93 rfl w
  by_cases hc5 : x1 = 5
  · have w := w5 hc5
    refine g_tabIn (tgt := 94) dX12_count_6 o1 (by omega) (by omega) (by rw [hc5]; rfl) rfl ?_
    refine g_aload_n dX12_count_94 rfl ?_
    refine g_getR dX12_count_95 fl_X12_33 sh_97 (al_97 hn) (fun _ _ _ => rfl) rf_97_6 ?_
    refine g_bipush dX12_count_98 rfl ?_
    refine g_iald dX12_count_100 sh_99 (al_99 hn) (Nat.le_of_ble_eq_true rfl) (by decide) ?_
    exact g_retI dX12_count_101 rfl w
  by_cases hc6 : x1 = 6
  · have w := w6 hc6
    refine g_tabIn (tgt := 102) dX12_count_6 o1 (by omega) (by omega) (by rw [hc6]; rfl) rfl ?_
    refine g_aload_n dX12_count_102 rfl ?_
    refine g_getR dX12_count_103 fl_X12_33 sh_97 (al_97 hn) (fun _ _ _ => rfl) rf_97_6 ?_
    refine g_bipush dX12_count_106 rfl ?_
    refine g_iald dX12_count_108 sh_99 (al_99 hn) (Nat.le_of_ble_eq_true rfl) (by decide) ?_
    exact g_retI dX12_count_109 rfl w
  by_cases hc7 : x1 = 7
  · have w := w7 hc7
    refine g_tabIn (tgt := 110) dX12_count_6 o1 (by omega) (by omega) (by rw [hc7]; rfl) rfl ?_
    refine g_aload_n dX12_count_110 rfl ?_
    refine g_getR dX12_count_111 fl_X12_141 sh_97 (al_97 hn) (fun _ _ _ => rfl) rf_97_71 ?_
    refine g_iconst dX12_count_114 ?_
    refine g_iald dX12_count_115 sh_133 (al_133 hn) (Nat.le_of_ble_eq_true rfl) (by decide) ?_
    exact g_retI dX12_count_116 rfl w
  by_cases hc8 : x1 = 8
  · have w := w8 hc8
    refine g_tabIn (tgt := 117) dX12_count_6 o1 (by omega) (by omega) (by rw [hc8]; rfl) rfl ?_
    refine g_aload_n dX12_count_117 rfl ?_
    refine g_getI (J := 2) dX12_count_118 fl_X12_7 sh_97 (al_97 hn) (fun _ _ _ => rfl) rfl ?_
    exact g_retI dX12_count_121 rfl w
  omega
