theorem e_X11_feed {l : Launch} {D : Nat} {ζ : ZP} {h : HI} {Q : Int → HI → Prop} {x1 x2 x3 x4 x5 : Int} (hn : 144 ≤ ζ.2.2.2.2) (w : (rg ((h 1 1) + 20)) ∧ (if ((h 1 1) + 20) ≤ 540 then (RtV l D mX7_add (zz ζ) [aP 1, aI x1] h (fun h1 => RtV l D mX7_add (zz ζ) [aP 1, aI x2] h1 (fun h2 => RtV l D mX7_add (zz ζ) [aP 1, aI x3] h2 (fun h3 => RtV l D mX7_add (zz ζ) [aP 1, aI x4] h3 (fun h4 => RtV l D mX7_add (zz ζ) [aP 1, aI x5] h4 (fun h5 => Q (h5 1 1) h5)))))) else (Q (-1) h))) : RtI l (D + 1) mX11_feed (zz ζ) [aP 0, aI x1, aI x2, aI x3, aI x4, aI x5] h Q := by
  refine RtI.of 0 pn_X11 [aP 0, aI x1, aI x2, aI x3, aI x4, aI x5] rfl rfl ?_
  refine g_aload_n dX11_feed_0 rfl ?_
  refine g_getR dX11_feed_1 fl_X11_10 sh_0 (al_0 hn) (fun _ _ _ => rfl) rf_0_0 ?_
  refine g_getI (J := 1) dX11_feed_4 fl_X11_100 sh_1 (al_1 hn) (fun _ _ _ => rfl) rfl ?_
  refine g_bipush dX11_feed_7 rfl ?_
  refine g_iadd dX11_feed_9 ?_
  refine g_sipush dX11_feed_10 rfl ?_
  obtain ⟨o1, w⟩ := w
  refine g_cmp_le (tgt := 18) dX11_feed_13 rfl o1 (by decide) ?_
  refine ite_imp (fun w => ?_) (fun w => ?_) w
  · refine g_aload_n dX11_feed_18 rfl ?_
    refine g_getR dX11_feed_19 fl_X11_10 sh_0 (al_0 hn) (fun _ _ _ => rfl) rf_0_0 ?_
    refine g_iload_n dX11_feed_22 rfl ?_
    refine g_callVV (n := 1) (As := [aI x1]) (st := []) dX11_feed_23 ml_X11_103 sh_1 rfl (al_1 hn) rfl rfl (Nat.le_of_ble_eq_true rfl) (RtV.mono w (fun h1 w => ?_))
    refine g_aload_n dX11_feed_26 rfl ?_
    refine g_getR dX11_feed_27 fl_X11_10 sh_0 (al_0 hn) (fun _ _ _ => rfl) rf_0_0 ?_
    refine g_iload_n dX11_feed_30 rfl ?_
    refine g_callVV (n := 1) (As := [aI x2]) (st := []) dX11_feed_31 ml_X11_103 sh_1 rfl (al_1 hn) rfl rfl (Nat.le_of_ble_eq_true rfl) (RtV.mono w (fun h2 w => ?_))
    refine g_aload_n dX11_feed_34 rfl ?_
    refine g_getR dX11_feed_35 fl_X11_10 sh_0 (al_0 hn) (fun _ _ _ => rfl) rf_0_0 ?_
    refine g_iload_n dX11_feed_38 rfl ?_
    refine g_callVV (n := 1) (As := [aI x3]) (st := []) dX11_feed_39 ml_X11_103 sh_1 rfl (al_1 hn) rfl rfl (Nat.le_of_ble_eq_true rfl) (RtV.mono w (fun h3 w => ?_))
    refine g_aload_n dX11_feed_42 rfl ?_
    refine g_getR dX11_feed_43 fl_X11_10 sh_0 (al_0 hn) (fun _ _ _ => rfl) rf_0_0 ?_
    refine g_iload dX11_feed_46 rfl ?_
    refine g_callVV (n := 1) (As := [aI x4]) (st := []) dX11_feed_48 ml_X11_103 sh_1 rfl (al_1 hn) rfl rfl (Nat.le_of_ble_eq_true rfl) (RtV.mono w (fun h4 w => ?_))
    refine g_aload_n dX11_feed_51 rfl ?_
    refine g_getR dX11_feed_52 fl_X11_10 sh_0 (al_0 hn) (fun _ _ _ => rfl) rf_0_0 ?_
    refine g_iload dX11_feed_55 rfl ?_
    refine g_callVV (n := 1) (As := [aI x5]) (st := []) dX11_feed_57 ml_X11_103 sh_1 rfl (al_1 hn) rfl rfl (Nat.le_of_ble_eq_true rfl) (RtV.mono w (fun h5 w => ?_))
    refine g_aload_n dX11_feed_60 rfl ?_
    refine g_getR dX11_feed_61 fl_X11_10 sh_0 (al_0 hn) (fun _ _ _ => rfl) rf_0_0 ?_
    refine g_getI (J := 1) dX11_feed_64 fl_X11_100 sh_1 (al_1 hn) (fun _ _ _ => rfl) rfl ?_
    exact g_retI dX11_feed_67 rfl w
  · refine g_iconst dX11_feed_16 ?_
    exact g_retI dX11_feed_17 rfl w
theorem e_X11_end {l : Launch} {D : Nat} {ζ : ZP} {h : HI} {Q : Int → HI → Prop} {x1 : Int} (hn : 144 ≤ ζ.2.2.2.2) (w : (rg x1) ∧ (if x1 < 0 then (Q 0 h) else ((rg (h 1 1)) ∧ (if x1 ≤ (h 1 1) then (Q 1 (hu h 1 1 x1)) else (Q 0 h))))) : RtI l (D + 1) mX11_end (zz ζ) [aP 0, aI x1] h Q := by
  refine RtI.of 0 pn_X11 [aP 0, aI x1] rfl rfl ?_
  refine g_iload_n dX11_end_0 rfl ?_
  obtain ⟨o1, w⟩ := w
  refine g_if_lt (tgt := 15) dX11_end_1 rfl o1 ?_
  refine ite_imp (fun w => ?_) (fun w => ?_) w
  · refine g_iconst dX11_end_15 ?_
    exact g_retZ dX11_end_16 rfl (Or.inl rfl) w
  · refine g_iload_n dX11_end_4 rfl ?_
    refine g_aload_n dX11_end_5 rfl ?_
    refine g_getR dX11_end_6 fl_X11_10 sh_0 (al_0 hn) (fun _ _ _ => rfl) rf_0_0 ?_
    refine g_getI (J := 1) dX11_end_9 fl_X11_100 sh_1 (al_1 hn) (fun _ _ _ => rfl) rfl ?_
    obtain ⟨o2, w⟩ := w
    refine g_cmp_le (tgt := 17) dX11_end_12 rfl o1 o2 ?_
    refine ite_imp (fun w => ?_) (fun w => ?_) w
    · refine g_aload_n dX11_end_17 rfl ?_
      refine g_getR dX11_end_18 fl_X11_10 sh_0 (al_0 hn) (fun _ _ _ => rfl) rf_0_0 ?_
      refine g_iload_n dX11_end_21 rfl ?_
      refine g_putI (J := 1) dX11_end_22 fl_X11_100 sh_1 (al_1 hn) rfl rfl ?_
      refine g_iconst dX11_end_25 ?_
      exact g_retZ dX11_end_26 rfl (Or.inr rfl) w
    · refine g_iconst dX11_end_15 ?_
      exact g_retZ dX11_end_16 rfl (Or.inl rfl) w
theorem e_X11_house {l : Launch} {D : Nat} {ζ : ZP} {h : HI} {Q : Int → HI → Prop} (hn : 144 ≤ ζ.2.2.2.2) (w : RtI l D mX0_readFrom (zz ζ) [aP 34, aP 1] h (fun r1 h1 => (rg r1) ∧ (if ¬ r1 = 0 then (RtV l D mX5_renew (zz ζ) [aP 3, aP 34] (hu h1 1 1 0) (fun h2 => Q (h2 34 5) (hu h2 40 0 1))) else (Q ((-1) - (h1 1 9)) (hu h1 1 1 0))))) : RtI l (D + 1) mX11_house (zz ζ) [aP 0] h Q := by
  refine RtI.of 1 pn_X11 [aP 0, aU] rfl rfl ?_
  refine g_aload_n dX11_house_0 rfl ?_
  refine g_getR dX11_house_1 fl_X11_30 sh_0 (al_0 hn) (fun _ _ _ => rfl) rf_0_3 ?_
  refine g_aload_n dX11_house_4 rfl ?_
  refine g_getR dX11_house_5 fl_X11_10 sh_0 (al_0 hn) (fun _ _ _ => rfl) rf_0_0 ?_
  refine g_callVI (n := 1) (As := [aP 1]) (st := []) dX11_house_8 ml_X11_107 sh_34 rfl (al_34 hn) rfl rfl (Nat.le_of_ble_eq_true rfl) (RtI.mono w (fun r1 h1 w => ?_))
  refine g_istore_n (ls' := [aP 0, aI r1]) dX11_house_11 (Nat.le_of_ble_eq_true rfl) rfl rfl ?_
  refine g_aload_n dX11_house_12 rfl ?_
  refine g_getR dX11_house_13 fl_X11_10 sh_0 (al_0 hn) (fun _ _ _ => rfl) rf_0_0 ?_
  refine g_iconst dX11_house_16 ?_
  refine g_putI (J := 1) dX11_house_17 fl_X11_100 sh_1 (al_1 hn) rfl rfl ?_
  refine g_iload_n dX11_house_20 rfl ?_
  obtain ⟨o1, w⟩ := w
  refine g_if_ne (tgt := 34) dX11_house_21 rfl o1 ?_
  refine ite_imp (fun w => ?_) (fun w => ?_) w
  · refine g_aload_n dX11_house_34 rfl ?_
    refine g_getR dX11_house_35 fl_X11_19 sh_0 (al_0 hn) (fun _ _ _ => rfl) rf_0_1 ?_
    refine g_aload_n dX11_house_38 rfl ?_
    refine g_getR dX11_house_39 fl_X11_30 sh_0 (al_0 hn) (fun _ _ _ => rfl) rf_0_3 ?_
    refine g_callVV (n := 1) (As := [aP 34]) (st := []) dX11_house_42 ml_X11_114 sh_3 rfl (al_3 hn) rfl rfl (Nat.le_of_ble_eq_true rfl) (RtV.mono w (fun h2 w => ?_))
    refine g_aload_n dX11_house_45 rfl ?_
    refine g_getR dX11_house_46 fl_X11_44 sh_0 (al_0 hn) (fun _ _ _ => rfl) rf_0_5 ?_
    refine g_iconst dX11_house_49 ?_
    refine g_putZ (J := 0) dX11_house_50 fl_X11_118 sh_40 (al_40 hn) rfl rfl (Or.inr rfl) ?_
    refine g_aload_n dX11_house_53 rfl ?_
    refine g_getR dX11_house_54 fl_X11_30 sh_0 (al_0 hn) (fun _ _ _ => rfl) rf_0_3 ?_
    refine g_getI (J := 5) dX11_house_57 fl_X11_122 sh_34 (al_34 hn) (fun _ _ _ => rfl) rfl ?_
    exact g_retI dX11_house_60 rfl w
  · refine g_iconst dX11_house_24 ?_
    refine g_aload_n dX11_house_25 rfl ?_
    refine g_getR dX11_house_26 fl_X11_10 sh_0 (al_0 hn) (fun _ _ _ => rfl) rf_0_0 ?_
    refine g_getI (J := 9) dX11_house_29 fl_X11_111 sh_1 (al_1 hn) (fun _ _ _ => rfl) rfl ?_
    refine g_isub dX11_house_32 ?_
    exact g_retI dX11_house_33 rfl w
theorem e_X11_fault {l : Launch} {D : Nat} {ζ : ZP} {h : HI} {Q : Int → HI → Prop} (hn : 144 ≤ ζ.2.2.2.2) (w : Q (h 1 8) h) : RtI l (D + 1) mX11_fault (zz ζ) [aP 0] h Q := by
  refine RtI.of 0 pn_X11 [aP 0] rfl rfl ?_
  refine g_aload_n dX11_fault_0 rfl ?_
  refine g_getR dX11_fault_1 fl_X11_10 sh_0 (al_0 hn) (fun _ _ _ => rfl) rf_0_0 ?_
  refine g_getI (J := 8) dX11_fault_4 fl_X11_125 sh_1 (al_1 hn) (fun _ _ _ => rfl) rfl ?_
  exact g_retI dX11_fault_7 rfl w
theorem e_X11_cell {l : Launch} {D : Nat} {ζ : ZP} {h : HI} {Q : Int → HI → Prop} {x1 : Int} (hn : 144 ≤ ζ.2.2.2.2) (w : RtI l D mX0_hasBox (zz ζ) [aP 4, aI x1] h (fun r1 h1 => (rg r1) ∧ (if ¬ r1 = 0 then (RtI l D mX5_addCell (zz ζ) [aP 3, aI x1] h1 (fun r2 h2 => Q r2 h2)) else (Q (-1) h1)))) : RtI l (D + 1) mX11_cell (zz ζ) [aP 0, aI x1] h Q := by
  refine RtI.of 0 pn_X11 [aP 0, aI x1] rfl rfl ?_
  refine g_aload_n dX11_cell_0 rfl ?_
  refine g_getR dX11_cell_1 fl_X11_19 sh_0 (al_0 hn) (fun _ _ _ => rfl) rf_0_1 ?_
  refine g_getR dX11_cell_4 fl_X11_128 sh_3 (al_3 hn) (fun _ _ _ => rfl) rf_3_0 ?_
  refine g_iload_n dX11_cell_7 rfl ?_
  refine g_callVI (n := 1) (As := [aI x1]) (st := []) dX11_cell_8 ml_X11_131 sh_4 rfl (al_4 hn) rfl rfl (Nat.le_of_ble_eq_true rfl) (RtI.mono w (fun r1 h1 w => ?_))
  obtain ⟨o1, w⟩ := w
  refine g_if_ne (tgt := 16) dX11_cell_11 rfl o1 ?_
  refine ite_imp (fun w => ?_) (fun w => ?_) w
  · refine g_aload_n dX11_cell_16 rfl ?_
    refine g_getR dX11_cell_17 fl_X11_19 sh_0 (al_0 hn) (fun _ _ _ => rfl) rf_0_1 ?_
    refine g_iload_n dX11_cell_20 rfl ?_
    refine g_callVI (n := 1) (As := [aI x1]) (st := []) dX11_cell_21 ml_X11_135 sh_3 rfl (al_3 hn) rfl rfl (Nat.le_of_ble_eq_true rfl) (RtI.mono w (fun r2 h2 w => ?_))
    exact g_retI dX11_cell_24 rfl w
  · refine g_iconst dX11_cell_14 ?_
    exact g_retI dX11_cell_15 rfl w
theorem e_X11_read {l : Launch} {D : Nat} {ζ : ZP} {h : HI} {Q : Int → HI → Prop} {x1 x2 x3 x4 : Int} (hn : 144 ≤ ζ.2.2.2.2) (w : RtI l D mX5_hasCell (zz ζ) [aP 3, aI x1] h (fun r1 h1 => (rg r1) ∧ (if r1 = 0 then (Q (-1) h1) else (RtI l D mX0_hasBench (zz ζ) [aP 4, aI x2] h1 (fun r2 h2 => (rg r2) ∧ (if ¬ r2 = 0 then (RtI l D mX11_within (zz ζ) [aI x3, aI 1, aI 400] h2 (fun r3 h3 => (rg r3) ∧ (if r3 = 0 then (Q (-1) h3) else (RtI l D mX11_within (zz ζ) [aI x4, aI 1, aI 999] h3 (fun r4 h4 => (rg r4) ∧ (if r4 = 0 then (Q (-1) h4) else ((rg (h4 3 5)) ∧ (if (h4 3 5) < 200 then (RtI l D mX5_addReading (zz ζ) [aP 3, aI x1, aI x2, aI x3, aI x4] (hu h4 40 0 1) (fun r5 h5 => Q r5 h5)) else (Q (-1) h4))))))))) else (Q (-1) h2))))))) : RtI l (D + 1) mX11_read (zz ζ) [aP 0, aI x1, aI x2, aI x3, aI x4] h Q := by
  refine RtI.of 0 pn_X11 [aP 0, aI x1, aI x2, aI x3, aI x4] rfl rfl ?_
  refine g_aload_n dX11_read_0 rfl ?_
  refine g_getR dX11_read_1 fl_X11_19 sh_0 (al_0 hn) (fun _ _ _ => rfl) rf_0_1 ?_
  refine g_iload_n dX11_read_4 rfl ?_
  refine g_callVI (n := 1) (As := [aI x1]) (st := []) dX11_read_5 ml_X11_139 sh_3 rfl (al_3 hn) rfl rfl (Nat.le_of_ble_eq_true rfl) (RtI.mono w (fun r1 h1 w => ?_))
  obtain ⟨o1, w⟩ := w
  refine g_if_eq (tgt := 25) dX11_read_8 rfl o1 ?_
  refine ite_imp (fun w => ?_) (fun w => ?_) w
  · refine g_iconst dX11_read_25 ?_
    exact g_retI dX11_read_26 rfl w
  · refine g_aload_n dX11_read_11 rfl ?_
    refine g_getR dX11_read_12 fl_X11_19 sh_0 (al_0 hn) (fun _ _ _ => rfl) rf_0_1 ?_
    refine g_getR dX11_read_15 fl_X11_128 sh_3 (al_3 hn) (fun _ _ _ => rfl) rf_3_0 ?_
    refine g_iload_n dX11_read_18 rfl ?_
    refine g_callVI (n := 1) (As := [aI x2]) (st := []) dX11_read_19 ml_X11_142 sh_4 rfl (al_4 hn) rfl rfl (Nat.le_of_ble_eq_true rfl) (RtI.mono w (fun r2 h2 w => ?_))
    obtain ⟨o2, w⟩ := w
    refine g_if_ne (tgt := 27) dX11_read_22 rfl o2 ?_
    refine ite_imp (fun w => ?_) (fun w => ?_) w
    · refine g_iload_n dX11_read_27 rfl ?_
      refine g_iconst dX11_read_28 ?_
      refine g_sipush dX11_read_29 rfl ?_
      refine g_callSI (n := 3) (As := [aI x3, aI 1, aI 400]) (st := []) dX11_read_32 ml_X11_145 rfl rfl (Nat.le_of_ble_eq_true rfl) rfl (RtI.mono w (fun r3 h3 w => ?_))
      obtain ⟨o3, w⟩ := w
      refine g_if_eq (tgt := 63) dX11_read_35 rfl o3 ?_
      refine ite_imp (fun w => ?_) (fun w => ?_) w
      · refine g_iconst dX11_read_63 ?_
        exact g_retI dX11_read_64 rfl w
      · refine g_iload dX11_read_38 rfl ?_
        refine g_iconst dX11_read_40 ?_
        refine g_sipush dX11_read_41 rfl ?_
        refine g_callSI (n := 3) (As := [aI x4, aI 1, aI 999]) (st := []) dX11_read_44 ml_X11_145 rfl rfl (Nat.le_of_ble_eq_true rfl) rfl (RtI.mono w (fun r4 h4 w => ?_))
        obtain ⟨o4, w⟩ := w
        refine g_if_eq (tgt := 63) dX11_read_47 rfl o4 ?_
        refine ite_imp (fun w => ?_) (fun w => ?_) w
        · refine g_iconst dX11_read_63 ?_
          exact g_retI dX11_read_64 rfl w
        · refine g_aload_n dX11_read_50 rfl ?_
          refine g_getR dX11_read_51 fl_X11_19 sh_0 (al_0 hn) (fun _ _ _ => rfl) rf_0_1 ?_
          refine g_getI (J := 5) dX11_read_54 fl_X11_149 sh_3 (al_3 hn) (fun _ _ _ => rfl) rfl ?_
          refine g_sipush dX11_read_57 rfl ?_
          obtain ⟨o5, w⟩ := w
          refine g_cmp_lt (tgt := 65) dX11_read_60 rfl o5 (by decide) ?_
          refine ite_imp (fun w => ?_) (fun w => ?_) w
          · refine g_aload_n dX11_read_65 rfl ?_
            refine g_getR dX11_read_66 fl_X11_44 sh_0 (al_0 hn) (fun _ _ _ => rfl) rf_0_5 ?_
            refine g_iconst dX11_read_69 ?_
            refine g_putZ (J := 0) dX11_read_70 fl_X11_118 sh_40 (al_40 hn) rfl rfl (Or.inr rfl) ?_
            refine g_aload_n dX11_read_73 rfl ?_
            refine g_getR dX11_read_74 fl_X11_19 sh_0 (al_0 hn) (fun _ _ _ => rfl) rf_0_1 ?_
            refine g_iload_n dX11_read_77 rfl ?_
            refine g_iload_n dX11_read_78 rfl ?_
            refine g_iload_n dX11_read_79 rfl ?_
            refine g_iload dX11_read_80 rfl ?_
            refine g_callVI (n := 4) (As := [aI x1, aI x2, aI x3, aI x4]) (st := []) dX11_read_82 ml_X11_152 sh_3 rfl (al_3 hn) rfl rfl (Nat.le_of_ble_eq_true rfl) (RtI.mono w (fun r5 h5 w => ?_))
            exact g_retI dX11_read_85 rfl w
          · refine g_iconst dX11_read_63 ?_
            exact g_retI dX11_read_64 rfl w
    · refine g_iconst dX11_read_25 ?_
      exact g_retI dX11_read_26 rfl w
theorem e_X11_rest {l : Launch} {D : Nat} {ζ : ZP} {h : HI} {Q : Int → HI → Prop} {x1 x2 x3 x4 : Int} (hn : 144 ≤ ζ.2.2.2.2) (w : RtI l D mX5_hasCell (zz ζ) [aP 3, aI x1] h (fun r1 h1 => (rg r1) ∧ (if r1 = 0 then (Q (-1) h1) else ((rg (h1 3 10)) ∧ (if (h1 3 10) < 200 then (RtI l D mX11_within (zz ζ) [aI x2, aI 0, aI 99] h1 (fun r2 h2 => (rg r2) ∧ (if r2 = 0 then (Q (-1) h2) else (RtI l D mX11_within (zz ζ) [aI x3, aI 0, aI 4200] h2 (fun r3 h3 => (rg r3) ∧ (if r3 = 0 then (Q (-1) h3) else (RtI l D mX11_within (zz ζ) [aI x4, aI 0, aI 99] h3 (fun r4 h4 => (rg r4) ∧ (if ¬ r4 = 0 then ((0 ≤ x1 ∧ x1 < 60) ∧ (rg (h4 27 x1)) ∧ (if (h4 27 x1) ≤ 0 then (RtI l D mX5_addRest (zz ζ) [aP 3, aI x1, aI x2, aI x3, aI x4] h4 (fun r5 h5 => Q r5 h5)) else ((rg x2) ∧ (rg (h4 30 x1)) ∧ (if (h4 30 x1) < x2 then (RtI l D mX5_addRest (zz ζ) [aP 3, aI x1, aI x2, aI x3, aI x4] h4 (fun r6 h6 => Q r6 h6)) else (Q (-1) h4))))) else (Q (-1) h4)))))))))) else (Q (-1) h1)))))) : RtI l (D + 1) mX11_rest (zz ζ) [aP 0, aI x1, aI x2, aI x3, aI x4] h Q := by
  refine RtI.of 0 pn_X11 [aP 0, aI x1, aI x2, aI x3, aI x4] rfl rfl ?_
  refine g_aload_n dX11_rest_0 rfl ?_
  refine g_getR dX11_rest_1 fl_X11_19 sh_0 (al_0 hn) (fun _ _ _ => rfl) rf_0_1 ?_
  refine g_iload_n dX11_rest_4 rfl ?_
  refine g_callVI (n := 1) (As := [aI x1]) (st := []) dX11_rest_5 ml_X11_139 sh_3 rfl (al_3 hn) rfl rfl (Nat.le_of_ble_eq_true rfl) (RtI.mono w (fun r1 h1 w => ?_))
  obtain ⟨o1, w⟩ := w
  refine g_if_eq (tgt := 24) dX11_rest_8 rfl o1 ?_
  refine ite_imp (fun w => ?_) (fun w => ?_) w
  · refine g_iconst dX11_rest_24 ?_
    exact g_retI dX11_rest_25 rfl w
  · refine g_aload_n dX11_rest_11 rfl ?_
    refine g_getR dX11_rest_12 fl_X11_19 sh_0 (al_0 hn) (fun _ _ _ => rfl) rf_0_1 ?_
    refine g_getI (J := 10) dX11_rest_15 fl_X11_156 sh_3 (al_3 hn) (fun _ _ _ => rfl) rfl ?_
    refine g_sipush dX11_rest_18 rfl ?_
    obtain ⟨o2, w⟩ := w
    refine g_cmp_lt (tgt := 26) dX11_rest_21 rfl o2 (by decide) ?_
    refine ite_imp (fun w => ?_) (fun w => ?_) w
    · refine g_iload_n dX11_rest_26 rfl ?_
      refine g_iconst dX11_rest_27 ?_
      refine g_bipush dX11_rest_28 rfl ?_
      refine g_callSI (n := 3) (As := [aI x2, aI 0, aI 99]) (st := []) dX11_rest_30 ml_X11_145 rfl rfl (Nat.le_of_ble_eq_true rfl) rfl (RtI.mono w (fun r2 h2 w => ?_))
      obtain ⟨o3, w⟩ := w
      refine g_if_eq (tgt := 58) dX11_rest_33 rfl o3 ?_
      refine ite_imp (fun w => ?_) (fun w => ?_) w
      · refine g_iconst dX11_rest_58 ?_
        exact g_retI dX11_rest_59 rfl w
      · refine g_iload_n dX11_rest_36 rfl ?_
        refine g_iconst dX11_rest_37 ?_
        refine g_sipush dX11_rest_38 rfl ?_
        refine g_callSI (n := 3) (As := [aI x3, aI 0, aI 4200]) (st := []) dX11_rest_41 ml_X11_145 rfl rfl (Nat.le_of_ble_eq_true rfl) rfl (RtI.mono w (fun r3 h3 w => ?_))
        obtain ⟨o4, w⟩ := w
        refine g_if_eq (tgt := 58) dX11_rest_44 rfl o4 ?_
        refine ite_imp (fun w => ?_) (fun w => ?_) w
        · refine g_iconst dX11_rest_58 ?_
          exact g_retI dX11_rest_59 rfl w
        · refine g_iload dX11_rest_47 rfl ?_
          refine g_iconst dX11_rest_49 ?_
          refine g_bipush dX11_rest_50 rfl ?_
          refine g_callSI (n := 3) (As := [aI x4, aI 0, aI 99]) (st := []) dX11_rest_52 ml_X11_145 rfl rfl (Nat.le_of_ble_eq_true rfl) rfl (RtI.mono w (fun r4 h4 w => ?_))
          obtain ⟨o5, w⟩ := w
          refine g_if_ne (tgt := 60) dX11_rest_55 rfl o5 ?_
          refine ite_imp (fun w => ?_) (fun w => ?_) w
          · refine g_aload_n dX11_rest_60 rfl ?_
            refine g_getR dX11_rest_61 fl_X11_19 sh_0 (al_0 hn) (fun _ _ _ => rfl) rf_0_1 ?_
            refine g_getR dX11_rest_64 fl_X11_159 sh_3 (al_3 hn) (fun _ _ _ => rfl) rf_3_11 ?_
            refine g_iload_n dX11_rest_67 rfl ?_
            obtain ⟨o6, w⟩ := w
            refine g_iald dX11_rest_68 sh_27 (al_27 hn) (Nat.le_of_ble_eq_true rfl) o6 ?_
            obtain ⟨o7, w⟩ := w
            refine g_if_le (tgt := 87) dX11_rest_69 rfl o7 ?_
            refine ite_imp (fun w => ?_) (fun w => ?_) w
            · refine g_aload_n dX11_rest_87 rfl ?_
              refine g_getR dX11_rest_88 fl_X11_19 sh_0 (al_0 hn) (fun _ _ _ => rfl) rf_0_1 ?_
              refine g_iload_n dX11_rest_91 rfl ?_
              refine g_iload_n dX11_rest_92 rfl ?_
              refine g_iload_n dX11_rest_93 rfl ?_
              refine g_iload dX11_rest_94 rfl ?_
              refine g_callVI (n := 4) (As := [aI x1, aI x2, aI x3, aI x4]) (st := []) dX11_rest_96 ml_X11_165 sh_3 rfl (al_3 hn) rfl rfl (Nat.le_of_ble_eq_true rfl) (RtI.mono w (fun r5 h5 w => ?_))
              exact g_retI dX11_rest_99 rfl w
            · refine g_iload_n dX11_rest_72 rfl ?_
              refine g_aload_n dX11_rest_73 rfl ?_
              refine g_getR dX11_rest_74 fl_X11_19 sh_0 (al_0 hn) (fun _ _ _ => rfl) rf_0_1 ?_
              refine g_getR dX11_rest_77 fl_X11_162 sh_3 (al_3 hn) (fun _ _ _ => rfl) rf_3_14 ?_
              refine g_iload_n dX11_rest_80 rfl ?_
              refine g_iald dX11_rest_81 sh_30 (al_30 hn) (Nat.le_of_ble_eq_true rfl) o6 ?_
              obtain ⟨o8, w⟩ := w
              obtain ⟨o9, w⟩ := w
              refine g_cmp_gt (tgt := 87) dX11_rest_82 rfl o8 o9 ?_
              refine ite_imp (fun w => ?_) (fun w => ?_) w
              · refine g_aload_n dX11_rest_87 rfl ?_
                refine g_getR dX11_rest_88 fl_X11_19 sh_0 (al_0 hn) (fun _ _ _ => rfl) rf_0_1 ?_
                refine g_iload_n dX11_rest_91 rfl ?_
                refine g_iload_n dX11_rest_92 rfl ?_
                refine g_iload_n dX11_rest_93 rfl ?_
                refine g_iload dX11_rest_94 rfl ?_
                refine g_callVI (n := 4) (As := [aI x1, aI x2, aI x3, aI x4]) (st := []) dX11_rest_96 ml_X11_165 sh_3 rfl (al_3 hn) rfl rfl (Nat.le_of_ble_eq_true rfl) (RtI.mono w (fun r6 h6 w => ?_))
                exact g_retI dX11_rest_99 rfl w
              · refine g_iconst dX11_rest_85 ?_
                exact g_retI dX11_rest_86 rfl w
          · refine g_iconst dX11_rest_58 ?_
            exact g_retI dX11_rest_59 rfl w
    · refine g_iconst dX11_rest_24 ?_
      exact g_retI dX11_rest_25 rfl w
-- X11_lean: not walked (new)
-- X11_about: not walked (new)
theorem e_X11_again {l : Launch} {D : Nat} {ζ : ZP} {h : HI} {Q : Int → HI → Prop} (hn : 144 ≤ ζ.2.2.2.2) (w : RtV l D mX8_refresh (zz ζ) [aP 40, aP 3] h (fun h1 => RtI l D mX8_mostSpread (zz ζ) [aP 40, aI (h1 3 3)] h1 (fun r2 h2 => Q r2 h2))) : RtI l (D + 1) mX11_again (zz ζ) [aP 0] h Q := by
  refine RtI.of 0 pn_X11 [aP 0] rfl rfl ?_
  refine g_aload_n dX11_again_0 rfl ?_
  refine g_getR dX11_again_1 fl_X11_44 sh_0 (al_0 hn) (fun _ _ _ => rfl) rf_0_5 ?_
  refine g_aload_n dX11_again_4 rfl ?_
  refine g_getR dX11_again_5 fl_X11_19 sh_0 (al_0 hn) (fun _ _ _ => rfl) rf_0_1 ?_
  refine g_callVV (n := 1) (As := [aP 3]) (st := []) dX11_again_8 ml_X11_171 sh_40 rfl (al_40 hn) rfl rfl (Nat.le_of_ble_eq_true rfl) (RtV.mono w (fun h1 w => ?_))
  refine g_aload_n dX11_again_11 rfl ?_
  refine g_getR dX11_again_12 fl_X11_44 sh_0 (al_0 hn) (fun _ _ _ => rfl) rf_0_5 ?_
  refine g_aload_n dX11_again_15 rfl ?_
  refine g_getR dX11_again_16 fl_X11_19 sh_0 (al_0 hn) (fun _ _ _ => rfl) rf_0_1 ?_
  refine g_getI (J := 3) dX11_again_19 fl_X11_204 sh_3 (al_3 hn) (fun _ _ _ => rfl) rfl ?_
  refine g_callVI (n := 1) (As := [aI (h1 3 3)]) (st := []) dX11_again_22 ml_X11_207 sh_40 rfl (al_40 hn) rfl rfl (Nat.le_of_ble_eq_true rfl) (RtI.mono w (fun r2 h2 w => ?_))
  exact g_retI dX11_again_25 rfl w
-- X11_fall: not walked (new)
theorem e_X11_lies {l : Launch} {D : Nat} {ζ : ZP} {h : HI} {Q : Int → HI → Prop} {x1 : Int} (hn : 144 ≤ ζ.2.2.2.2) (w : RtI l D mX5_hasCell (zz ζ) [aP 3, aI x1] h (fun r1 h1 => (rg r1) ∧ (if r1 = 0 then (Q (-1) h1) else (RtI l D mX5_liesOf (zz ζ) [aP 3, aI x1] h1 (fun r2 h2 => Q r2 h2))))) : RtI l (D + 1) mX11_lies (zz ζ) [aP 0, aI x1] h Q := by
  refine RtI.of 0 pn_X11 [aP 0, aI x1] rfl rfl ?_
  refine g_aload_n dX11_lies_0 rfl ?_
  refine g_getR dX11_lies_1 fl_X11_19 sh_0 (al_0 hn) (fun _ _ _ => rfl) rf_0_1 ?_
  refine g_iload_n dX11_lies_4 rfl ?_
  refine g_callVI (n := 1) (As := [aI x1]) (st := []) dX11_lies_5 ml_X11_139 sh_3 rfl (al_3 hn) rfl rfl (Nat.le_of_ble_eq_true rfl) (RtI.mono w (fun r1 h1 w => ?_))
  obtain ⟨o1, w⟩ := w
  refine g_if_eq (tgt := 22) dX11_lies_8 rfl o1 ?_
  refine ite_imp (fun w => ?_) (fun w => ?_) w
  · refine g_iconst dX11_lies_22 ?_
    exact g_retI dX11_lies_23 rfl w
  · refine g_aload_n dX11_lies_11 rfl ?_
    refine g_getR dX11_lies_12 fl_X11_19 sh_0 (al_0 hn) (fun _ _ _ => rfl) rf_0_1 ?_
    refine g_iload_n dX11_lies_15 rfl ?_
    refine g_callVI (n := 1) (As := [aI x1]) (st := []) dX11_lies_16 ml_X11_222 sh_3 rfl (al_3 hn) rfl rfl (Nat.le_of_ble_eq_true rfl) (RtI.mono w (fun r2 h2 w => ?_))
    refine g_goto (tgt := 23) dX11_lies_19 rfl ?_
    exact g_retI dX11_lies_23 rfl w
theorem e_X11_days {l : Launch} {D : Nat} {ζ : ZP} {h : HI} {Q : Int → HI → Prop} {x1 : Int} (hn : 144 ≤ ζ.2.2.2.2) (w : RtI l D mX11_within (zz ζ) [aI x1, aI 1, aI 99] h (fun r1 h1 => (rg r1) ∧ (if ¬ r1 = 0 then (RtI l D mX11_cut (zz ζ) [aI (2 * (h1 7 5)), aI x1] h1 (fun r2 h2 => Q (r2 + 1) h2)) else (Q (-1) h1)))) : RtI l (D + 1) mX11_days (zz ζ) [aP 0, aI x1] h Q := by
  refine RtI.of 0 pn_X11 [aP 0, aI x1] rfl rfl ?_
  refine g_iload_n dX11_days_0 rfl ?_
  refine g_iconst dX11_days_1 ?_
  refine g_bipush dX11_days_2 rfl ?_
  refine g_callSI (n := 3) (As := [aI x1, aI 1, aI 99]) (st := []) dX11_days_4 ml_X11_145 rfl rfl (Nat.le_of_ble_eq_true rfl) rfl (RtI.mono w (fun r1 h1 w => ?_))
  obtain ⟨o1, w⟩ := w
  refine g_if_ne (tgt := 12) dX11_days_7 rfl o1 ?_
  refine ite_imp (fun w => ?_) (fun w => ?_) w
  · refine g_iconst dX11_days_12 ?_
    refine g_aload_n dX11_days_13 rfl ?_
    refine g_getR dX11_days_14 fl_X11_19 sh_0 (al_0 hn) (fun _ _ _ => rfl) rf_0_1 ?_
    refine g_getR dX11_days_17 fl_X11_128 sh_3 (al_3 hn) (fun _ _ _ => rfl) rf_3_0 ?_
    refine g_getR dX11_days_20 fl_X11_225 sh_4 (al_4 hn) (fun _ _ _ => rfl) rf_4_2 ?_
    refine g_iconst dX11_days_23 ?_
    refine g_iald dX11_days_24 sh_7 (al_7 hn) (Nat.le_of_ble_eq_true rfl) (by decide) ?_
    refine g_imul dX11_days_25 ?_
    refine g_iload_n dX11_days_26 rfl ?_
    refine g_callSI (n := 2) (As := [aI (2 * (h1 7 5)), aI x1]) (st := []) dX11_days_27 ml_X11_219 rfl rfl (Nat.le_of_ble_eq_true rfl) rfl (RtI.mono w (fun r2 h2 w => ?_))
    refine g_iconst dX11_days_30 ?_
    refine g_iadd dX11_days_31 ?_
    exact g_retI dX11_days_32 rfl w
  · refine g_iconst dX11_days_10 ?_
    exact g_retI dX11_days_11 rfl w
theorem e_X11_rule {l : Launch} {D : Nat} {ζ : ZP} {h : HI} {Q : Int → HI → Prop} (hn : 144 ≤ ζ.2.2.2.2) (w : RtI l D mX3_readFrom (zz ζ) [aP 38, aP 1, aP 4] h (fun r1 h1 => (rg r1) ∧ (if ¬ r1 = 0 then (RtV l D mX3_copyFrom (zz ζ) [aP 8, aP 38] (hu h1 1 1 0) (fun h2 => Q (h2 38 2) h2)) else (Q ((-1) - (h1 1 9)) (hu h1 1 1 0))))) : RtI l (D + 1) mX11_rule (zz ζ) [aP 0] h Q := by
  refine RtI.of 1 pn_X11 [aP 0, aU] rfl rfl ?_
  refine g_aload_n dX11_rule_0 rfl ?_
  refine g_getR dX11_rule_1 fl_X11_37 sh_0 (al_0 hn) (fun _ _ _ => rfl) rf_0_4 ?_
  refine g_aload_n dX11_rule_4 rfl ?_
  refine g_getR dX11_rule_5 fl_X11_10 sh_0 (al_0 hn) (fun _ _ _ => rfl) rf_0_0 ?_
  refine g_aload_n dX11_rule_8 rfl ?_
  refine g_getR dX11_rule_9 fl_X11_19 sh_0 (al_0 hn) (fun _ _ _ => rfl) rf_0_1 ?_
  refine g_getR dX11_rule_12 fl_X11_128 sh_3 (al_3 hn) (fun _ _ _ => rfl) rf_3_0 ?_
  refine g_callVI (n := 2) (As := [aP 1, aP 4]) (st := []) dX11_rule_15 ml_X11_228 sh_38 rfl (al_38 hn) rfl rfl (Nat.le_of_ble_eq_true rfl) (RtI.mono w (fun r1 h1 w => ?_))
  refine g_istore_n (ls' := [aP 0, aI r1]) dX11_rule_18 (Nat.le_of_ble_eq_true rfl) rfl rfl ?_
  refine g_aload_n dX11_rule_19 rfl ?_
  refine g_getR dX11_rule_20 fl_X11_10 sh_0 (al_0 hn) (fun _ _ _ => rfl) rf_0_0 ?_
  refine g_iconst dX11_rule_23 ?_
  refine g_putI (J := 1) dX11_rule_24 fl_X11_100 sh_1 (al_1 hn) rfl rfl ?_
  refine g_iload_n dX11_rule_27 rfl ?_
  obtain ⟨o1, w⟩ := w
  refine g_if_ne (tgt := 41) dX11_rule_28 rfl o1 ?_
  refine ite_imp (fun w => ?_) (fun w => ?_) w
  · refine g_aload_n dX11_rule_41 rfl ?_
    refine g_getR dX11_rule_42 fl_X11_19 sh_0 (al_0 hn) (fun _ _ _ => rfl) rf_0_1 ?_
    refine g_getR dX11_rule_45 fl_X11_231 sh_3 (al_3 hn) (fun _ _ _ => rfl) rf_3_1 ?_
    refine g_aload_n dX11_rule_48 rfl ?_
    refine g_getR dX11_rule_49 fl_X11_37 sh_0 (al_0 hn) (fun _ _ _ => rfl) rf_0_4 ?_
    refine g_callVV (n := 1) (As := [aP 38]) (st := []) dX11_rule_52 ml_X11_234 sh_8 rfl (al_8 hn) rfl rfl (Nat.le_of_ble_eq_true rfl) (RtV.mono w (fun h2 w => ?_))
    refine g_aload_n dX11_rule_55 rfl ?_
    refine g_getR dX11_rule_56 fl_X11_37 sh_0 (al_0 hn) (fun _ _ _ => rfl) rf_0_4 ?_
    refine g_getI (J := 2) dX11_rule_59 fl_X11_238 sh_38 (al_38 hn) (fun _ _ _ => rfl) rfl ?_
    exact g_retI dX11_rule_62 rfl w
  · refine g_iconst dX11_rule_31 ?_
    refine g_aload_n dX11_rule_32 rfl ?_
    refine g_getR dX11_rule_33 fl_X11_10 sh_0 (al_0 hn) (fun _ _ _ => rfl) rf_0_0 ?_
    refine g_getI (J := 9) dX11_rule_36 fl_X11_111 sh_1 (al_1 hn) (fun _ _ _ => rfl) rfl ?_
    refine g_isub dX11_rule_39 ?_
    exact g_retI dX11_rule_40 rfl w
theorem b_X11_meets_35 {l : Launch} {D : Nat} {ζ : ZP} {h : HI} {Q : Int → HI → Prop} {x1 x2 x3 : Int} (hn : 144 ≤ ζ.2.2.2.2) (w : (rg x3) ∧ (rg (h 3 3)) ∧ (if (h 3 3) ≤ x3 then ((rg x1) ∧ (if ¬ x1 = (-1) then (Q (-1) h) else (Q x2 h))) else (RtI l D mX3_fits (zz ζ) [aP 8, aP 3, aP 40, aI x3] h (fun r1 h1 => (rg r1) ∧ (if r1 = 0 then (G l (D + 1) 0 0 mX11_meets (zz ζ) 35 [aP 0, aI x1, aI x2, aI (x3 + 1)] [] h1 (qI (zz ζ) Q)) else ((rg x2) ∧ (rg x1) ∧ (if ¬ x2 = x1 then (G l (D + 1) 0 0 mX11_meets (zz ζ) 35 [aP 0, aI x1, aI (x2 + 1), aI (x3 + 1)] [] h1 (qI (zz ζ) Q)) else (Q x3 h1)))))))) : G l (D + 1) 0 0 mX11_meets (zz ζ) 35 [aP 0, aI x1, aI x2, aI x3] [] h (qI (zz ζ) Q) := by
  refine g_iload_n dX11_meets_35 rfl ?_
  refine g_aload_n dX11_meets_36 rfl ?_
  refine g_getR dX11_meets_37 fl_X11_19 sh_0 (al_0 hn) (fun _ _ _ => rfl) rf_0_1 ?_
  refine g_getI (J := 3) dX11_meets_40 fl_X11_204 sh_3 (al_3 hn) (fun _ _ _ => rfl) rfl ?_
  obtain ⟨o1, w⟩ := w
  obtain ⟨o2, w⟩ := w
  refine g_cmp_ge (tgt := 84) dX11_meets_43 rfl o1 o2 ?_
  refine ite_imp (fun w => ?_) (fun w => ?_) w
  · refine g_iload_n dX11_meets_84 rfl ?_
    refine g_iconst dX11_meets_85 ?_
    obtain ⟨o3, w⟩ := w
    refine g_cmp_ne (tgt := 93) dX11_meets_86 rfl o3 (by decide) ?_
    refine ite_imp (fun w => ?_) (fun w => ?_) w
    · refine g_iconst dX11_meets_93 ?_
      exact g_retI dX11_meets_94 rfl w
    · refine g_iload_n dX11_meets_89 rfl ?_
      refine g_goto (tgt := 94) dX11_meets_90 rfl ?_
      exact g_retI dX11_meets_94 rfl w
  · refine g_aload_n dX11_meets_46 rfl ?_
    refine g_getR dX11_meets_47 fl_X11_19 sh_0 (al_0 hn) (fun _ _ _ => rfl) rf_0_1 ?_
    refine g_getR dX11_meets_50 fl_X11_231 sh_3 (al_3 hn) (fun _ _ _ => rfl) rf_3_1 ?_
    refine g_aload_n dX11_meets_53 rfl ?_
    refine g_getR dX11_meets_54 fl_X11_19 sh_0 (al_0 hn) (fun _ _ _ => rfl) rf_0_1 ?_
    refine g_aload_n dX11_meets_57 rfl ?_
    refine g_getR dX11_meets_58 fl_X11_44 sh_0 (al_0 hn) (fun _ _ _ => rfl) rf_0_5 ?_
    refine g_iload_n dX11_meets_61 rfl ?_
    refine g_callVI (n := 3) (As := [aP 3, aP 40, aI x3]) (st := []) dX11_meets_62 ml_X11_241 sh_8 rfl (al_8 hn) rfl rfl (Nat.le_of_ble_eq_true rfl) (RtI.mono w (fun r1 h1 w => ?_))
    obtain ⟨o4, w⟩ := w
    refine g_if_eq (tgt := 78) dX11_meets_65 rfl o4 ?_
    refine ite_imp (fun w => ?_) (fun w => ?_) w
    · refine g_iinc (ls' := [aP 0, aI x1, aI x2, aI (x3 + 1)]) dX11_meets_78 rfl (Nat.le_of_ble_eq_true rfl) rfl rfl ?_
      refine g_goto (tgt := 35) dX11_meets_81 rfl ?_
      exact g_sub (ls' := [aP 0, aI x1, aI x2, aI (x3 + 1)]) ⟨Or.inr rfl, Or.inr rfl, Or.inr rfl, Or.inr rfl, trivial⟩ w
    · refine g_iload_n dX11_meets_68 rfl ?_
      refine g_iload_n dX11_meets_69 rfl ?_
      obtain ⟨o5, w⟩ := w
      obtain ⟨o6, w⟩ := w
      refine g_cmp_ne (tgt := 75) dX11_meets_70 rfl o5 o6 ?_
      refine ite_imp (fun w => ?_) (fun w => ?_) w
      · refine g_iinc (ls' := [aP 0, aI x1, aI (x2 + 1), aI x3]) dX11_meets_75 rfl (Nat.le_of_ble_eq_true rfl) rfl rfl ?_
        refine g_iinc (ls' := [aP 0, aI x1, aI (x2 + 1), aI (x3 + 1)]) dX11_meets_78 rfl (Nat.le_of_ble_eq_true rfl) rfl rfl ?_
        refine g_goto (tgt := 35) dX11_meets_81 rfl ?_
        exact g_sub (ls' := [aP 0, aI x1, aI (x2 + 1), aI (x3 + 1)]) ⟨Or.inr rfl, Or.inr rfl, Or.inr rfl, Or.inr rfl, trivial⟩ w
      · refine g_iload_n dX11_meets_73 rfl ?_
        exact g_retI dX11_meets_74 rfl w
theorem e_X11_meets {l : Launch} {D : Nat} {ζ : ZP} {h : HI} {Q : Int → HI → Prop} {x1 : Int} (hn : 144 ≤ ζ.2.2.2.2) (w : (rg (h 8 2)) ∧ (if (h 8 2) = 0 then (Q (-1) h) else ((rg x1) ∧ (if (-1) ≤ x1 then (RtV l D mX8_refresh (zz ζ) [aP 40, aP 3] h (fun h1 => G l (D + 1) 0 0 mX11_meets (zz ζ) 35 [aP 0, aI x1, aI 0, aI 0] [] h1 (qI (zz ζ) Q))) else (Q (-1) h))))) : RtI l (D + 1) mX11_meets (zz ζ) [aP 0, aI x1] h Q := by
  refine RtI.of 2 pn_X11 [aP 0, aI x1, aU, aU] rfl rfl ?_
  refine g_aload_n dX11_meets_0 rfl ?_
  refine g_getR dX11_meets_1 fl_X11_19 sh_0 (al_0 hn) (fun _ _ _ => rfl) rf_0_1 ?_
  refine g_getR dX11_meets_4 fl_X11_231 sh_3 (al_3 hn) (fun _ _ _ => rfl) rf_3_1 ?_
  refine g_getI (J := 2) dX11_meets_7 fl_X11_238 sh_8 (al_8 hn) (fun _ _ _ => rfl) rfl ?_
  obtain ⟨o1, w⟩ := w
  refine g_if_eq (tgt := 18) dX11_meets_10 rfl o1 ?_
  refine ite_imp (fun w => ?_) (fun w => ?_) w
  · refine g_iconst dX11_meets_18 ?_
    exact g_retI dX11_meets_19 rfl w
  · refine g_iload_n dX11_meets_13 rfl ?_
    refine g_iconst dX11_meets_14 ?_
    obtain ⟨o2, w⟩ := w
    refine g_cmp_ge (tgt := 20) dX11_meets_15 rfl o2 (by decide) ?_
    refine ite_imp (fun w => ?_) (fun w => ?_) w
    · refine g_aload_n dX11_meets_20 rfl ?_
      refine g_getR dX11_meets_21 fl_X11_44 sh_0 (al_0 hn) (fun _ _ _ => rfl) rf_0_5 ?_
      refine g_aload_n dX11_meets_24 rfl ?_
      refine g_getR dX11_meets_25 fl_X11_19 sh_0 (al_0 hn) (fun _ _ _ => rfl) rf_0_1 ?_
      refine g_callVV (n := 1) (As := [aP 3]) (st := []) dX11_meets_28 ml_X11_171 sh_40 rfl (al_40 hn) rfl rfl (Nat.le_of_ble_eq_true rfl) (RtV.mono w (fun h1 w => ?_))
      refine g_iconst dX11_meets_31 ?_
      refine g_istore_n (ls' := [aP 0, aI x1, aI 0, aU]) dX11_meets_32 (Nat.le_of_ble_eq_true rfl) rfl rfl ?_
      refine g_iconst dX11_meets_33 ?_
      refine g_istore_n (ls' := [aP 0, aI x1, aI 0, aI 0]) dX11_meets_34 (Nat.le_of_ble_eq_true rfl) rfl rfl ?_
      exact g_sub (ls' := [aP 0, aI x1, aI 0, aI 0]) ⟨Or.inr rfl, Or.inr rfl, Or.inr rfl, Or.inr rfl, trivial⟩ w
    · refine g_iconst dX11_meets_18 ?_
      exact g_retI dX11_meets_19 rfl w
theorem b_X11_rows_30 {l : Launch} {D : Nat} {ζ : ZP} {h : HI} {Q : Int → HI → Prop} {x2 x3 : Int} (hn : 144 ≤ ζ.2.2.2.2) (w : (rg x3) ∧ (rg x2) ∧ (if x2 ≤ x3 then (RtV l D mX2_find (zz ζ) [aP 52] h (fun h1 => Q (h1 52 2) h1)) else ((0 ≤ x3 ∧ x3 < 60) ∧ (0 ≤ (h 51 x3) ∧ (h 51 x3) < 60) ∧ RtI l D mX8_flowOf (zz ζ) [aP 40, aI (h 51 x3)] h (fun r2 h2 => RtV l D mX2_tell (zz ζ) [aP 52, aI x3, aI (h 44 (h 51 x3)), aI r2] h2 (fun h3 => G l (D + 1) 0 0 mX11_rows (zz ζ) 30 [aP 0, aU, aI x2, aI (x3 + 1)] [] h3 (qI (zz ζ) Q)))))) : G l (D + 1) 0 0 mX11_rows (zz ζ) 30 [aP 0, aU, aI x2, aI x3] [] h (qI (zz ζ) Q) := by
  refine g_iload_n dX11_rows_30 rfl ?_
  refine g_iload_n dX11_rows_31 rfl ?_
  obtain ⟨o1, w⟩ := w
  obtain ⟨o2, w⟩ := w
  refine g_cmp_ge (tgt := 76) dX11_rows_32 rfl o1 o2 ?_
  refine ite_imp (fun w => ?_) (fun w => ?_) w
  · refine g_aload_n dX11_rows_76 rfl ?_
    refine g_getR dX11_rows_77 fl_X11_55 sh_0 (al_0 hn) (fun _ _ _ => rfl) rf_0_7 ?_
    refine g_callVV (n := 0) (As := []) (st := []) dX11_rows_80 ml_X11_264 sh_52 rfl (al_52 hn) rfl rfl (Nat.le_of_ble_eq_true rfl) (RtV.mono w (fun h1 w => ?_))
    refine g_aload_n dX11_rows_83 rfl ?_
    refine g_getR dX11_rows_84 fl_X11_55 sh_0 (al_0 hn) (fun _ _ _ => rfl) rf_0_7 ?_
    refine g_getI (J := 2) dX11_rows_87 fl_X11_267 sh_52 (al_52 hn) (fun _ _ _ => rfl) rfl ?_
    exact g_retI dX11_rows_90 rfl w
  · refine g_aload_n dX11_rows_35 rfl ?_
    refine g_getR dX11_rows_36 fl_X11_55 sh_0 (al_0 hn) (fun _ _ _ => rfl) rf_0_7 ?_
    refine g_iload_n dX11_rows_39 rfl ?_
    refine g_aload_n dX11_rows_40 rfl ?_
    refine g_getR dX11_rows_41 fl_X11_44 sh_0 (al_0 hn) (fun _ _ _ => rfl) rf_0_5 ?_
    refine g_getR dX11_rows_44 fl_X11_257 sh_40 (al_40 hn) (fun _ _ _ => rfl) rf_40_4 ?_
    refine g_aload_n dX11_rows_47 rfl ?_
    refine g_getR dX11_rows_48 fl_X11_48 sh_0 (al_0 hn) (fun _ _ _ => rfl) rf_0_6 ?_
    refine g_iload_n dX11_rows_51 rfl ?_
    obtain ⟨o3, w⟩ := w
    refine g_iald dX11_rows_52 sh_51 (al_51 hn) (Nat.le_of_ble_eq_true rfl) o3 ?_
    obtain ⟨o4, w⟩ := w
    refine g_iald dX11_rows_53 sh_44 (al_44 hn) (Nat.le_of_ble_eq_true rfl) o4 ?_
    refine g_aload_n dX11_rows_54 rfl ?_
    refine g_getR dX11_rows_55 fl_X11_44 sh_0 (al_0 hn) (fun _ _ _ => rfl) rf_0_5 ?_
    refine g_aload_n dX11_rows_58 rfl ?_
    refine g_getR dX11_rows_59 fl_X11_48 sh_0 (al_0 hn) (fun _ _ _ => rfl) rf_0_6 ?_
    refine g_iload_n dX11_rows_62 rfl ?_
    refine g_iald dX11_rows_63 sh_51 (al_51 hn) (Nat.le_of_ble_eq_true rfl) o3 ?_
    refine g_callVI (n := 1) (As := [aI (h 51 x3)]) (st := [aI (h 44 (h 51 x3)), aI x3, aP 52]) dX11_rows_64 ml_X11_197 sh_40 rfl (al_40 hn) rfl rfl (Nat.le_of_ble_eq_true rfl) (RtI.mono w (fun r2 h2 w => ?_))
    refine g_callVV (n := 3) (As := [aI x3, aI (h 44 (h 51 x3)), aI r2]) (st := []) dX11_rows_67 ml_X11_260 sh_52 rfl (al_52 hn) rfl rfl (Nat.le_of_ble_eq_true rfl) (RtV.mono w (fun h3 w => ?_))
    refine g_iinc (ls' := [aP 0, aU, aI x2, aI (x3 + 1)]) dX11_rows_70 rfl (Nat.le_of_ble_eq_true rfl) rfl rfl ?_
    refine g_goto (tgt := 30) dX11_rows_73 rfl ?_
    exact g_sub (ls' := [aP 0, aU, aI x2, aI (x3 + 1)]) ⟨Or.inr rfl, Or.inl rfl, Or.inr rfl, Or.inr rfl, trivial⟩ w
theorem e_X11_rows {l : Launch} {D : Nat} {ζ : ZP} {h : HI} {Q : Int → HI → Prop} {x1 : Int} (hn : 144 ≤ ζ.2.2.2.2) (w : RtI l D mX11_pickCells (zz ζ) [aP 0, aI 2, aI 12, aI 0] h (fun r1 h1 => RtI l D mX11_divides (zz ζ) [aI x1, aI r1] h1 (fun r2 h2 => (rg r2) ∧ (if ¬ r2 = 0 then (RtV l D mX2_start (zz ζ) [aP 52, aI r1, aI x1] h2 (fun h3 => G l (D + 1) 0 0 mX11_rows (zz ζ) 30 [aP 0, aU, aI r1, aI 0] [] h3 (qI (zz ζ) Q))) else (Q (-1) h2))))) : RtI l (D + 1) mX11_rows (zz ζ) [aP 0, aI x1] h Q := by
  refine RtI.of 2 pn_X11 [aP 0, aI x1, aU, aU] rfl rfl ?_
  refine g_aload_n dX11_rows_0 rfl ?_
  refine g_iconst dX11_rows_1 ?_
  refine g_bipush dX11_rows_2 rfl ?_
  refine g_iconst dX11_rows_4 ?_
  refine g_callVI (n := 3) (As := [aI 2, aI 12, aI 0]) (st := []) dX11_rows_5 ml_X11_245 sh_0 rfl (al_0 hn) rfl rfl (Nat.le_of_ble_eq_true rfl) (RtI.mono w (fun r1 h1 w => ?_))
  refine g_istore_n (ls' := [aP 0, aI x1, aI r1, aU]) dX11_rows_8 (Nat.le_of_ble_eq_true rfl) rfl rfl ?_
  refine g_iload_n dX11_rows_9 rfl ?_
  refine g_iload_n dX11_rows_10 rfl ?_
  refine g_callSI (n := 2) (As := [aI x1, aI r1]) (st := []) dX11_rows_11 ml_X11_249 rfl rfl (Nat.le_of_ble_eq_true rfl) rfl (RtI.mono w (fun r2 h2 w => ?_))
  obtain ⟨o1, w⟩ := w
  refine g_if_ne (tgt := 19) dX11_rows_14 rfl o1 ?_
  refine ite_imp (fun w => ?_) (fun w => ?_) w
  · refine g_aload_n dX11_rows_19 rfl ?_
    refine g_getR dX11_rows_20 fl_X11_55 sh_0 (al_0 hn) (fun _ _ _ => rfl) rf_0_7 ?_
    refine g_iload_n dX11_rows_23 rfl ?_
    refine g_iload_n dX11_rows_24 rfl ?_
    refine g_callVV (n := 2) (As := [aI r1, aI x1]) (st := []) dX11_rows_25 ml_X11_253 sh_52 rfl (al_52 hn) rfl rfl (Nat.le_of_ble_eq_true rfl) (RtV.mono w (fun h3 w => ?_))
    refine g_iconst dX11_rows_28 ?_
    refine g_istore_n (ls' := [aP 0, aI x1, aI r1, aI 0]) dX11_rows_29 (Nat.le_of_ble_eq_true rfl) rfl rfl ?_
    exact g_sub (ls' := [aP 0, aU, aI r1, aI 0]) ⟨Or.inr rfl, Or.inl rfl, Or.inr rfl, Or.inr rfl, trivial⟩ w
  · refine g_iconst dX11_rows_17 ?_
    exact g_retI dX11_rows_18 rfl w
theorem e_X11_rowAt {l : Launch} {D : Nat} {ζ : ZP} {h : HI} {Q : Int → HI → Prop} {x1 : Int} (hn : 144 ≤ ζ.2.2.2.2) (w : RtI l D mX11_within (zz ζ) [aI x1, aI 0, aI ((h 52 0) - 1)] h (fun r1 h1 => (rg r1) ∧ (if r1 = 0 then (Q (-1) h1) else ((0 ≤ x1 ∧ x1 < 12) ∧ Q (h1 53 x1) h1)))) : RtI l (D + 1) mX11_rowAt (zz ζ) [aP 0, aI x1] h Q := by
  refine RtI.of 0 pn_X11 [aP 0, aI x1] rfl rfl ?_
  refine g_iload_n dX11_rowAt_0 rfl ?_
  refine g_iconst dX11_rowAt_1 ?_
  refine g_aload_n dX11_rowAt_2 rfl ?_
  refine g_getR dX11_rowAt_3 fl_X11_55 sh_0 (al_0 hn) (fun _ _ _ => rfl) rf_0_7 ?_
  refine g_getI (J := 0) dX11_rowAt_6 fl_X11_270 sh_52 (al_52 hn) (fun _ _ _ => rfl) rfl ?_
  refine g_iconst dX11_rowAt_9 ?_
  refine g_isub dX11_rowAt_10 ?_
  refine g_callSI (n := 3) (As := [aI x1, aI 0, aI ((h 52 0) - 1)]) (st := []) dX11_rowAt_11 ml_X11_145 rfl rfl (Nat.le_of_ble_eq_true rfl) rfl (RtI.mono w (fun r1 h1 w => ?_))
  obtain ⟨o1, w⟩ := w
  refine g_if_eq (tgt := 29) dX11_rowAt_14 rfl o1 ?_
  refine ite_imp (fun w => ?_) (fun w => ?_) w
  · refine g_iconst dX11_rowAt_29 ?_
    exact g_retI dX11_rowAt_30 rfl w
  · refine g_aload_n dX11_rowAt_17 rfl ?_
    refine g_getR dX11_rowAt_18 fl_X11_55 sh_0 (al_0 hn) (fun _ _ _ => rfl) rf_0_7 ?_
    refine g_getR dX11_rowAt_21 fl_X11_273 sh_52 (al_52 hn) (fun _ _ _ => rfl) rf_52_1 ?_
    refine g_iload_n dX11_rowAt_24 rfl ?_
    obtain ⟨o2, w⟩ := w
    refine g_iald dX11_rowAt_25 sh_53 (al_53 hn) (Nat.le_of_ble_eq_true rfl) o2 ?_
    refine g_goto (tgt := 30) dX11_rowAt_26 rfl ?_
    exact g_retI dX11_rowAt_30 rfl w
theorem e_X11_rowsBy {l : Launch} {D : Nat} {ζ : ZP} {h : HI} {Q : Int → HI → Prop} {x1 : Int} (hn : 144 ≤ ζ.2.2.2.2) (w : (rg (h 52 0)) ∧ (if (h 52 0) = 0 then (Q (-1) h) else (RtI l D mX11_within (zz ζ) [aI x1, aI 0, aI 1] h (fun r1 h1 => (rg r1) ∧ (if ¬ r1 = 0 then ((rg x1) ∧ (if ¬ x1 = 0 then (Q (h1 52 4) h1) else (Q (h1 52 3) h1))) else (Q (-1) h1)))))) : RtI l (D + 1) mX11_rowsBy (zz ζ) [aP 0, aI x1] h Q := by
  refine RtI.of 0 pn_X11 [aP 0, aI x1] rfl rfl ?_
  refine g_aload_n dX11_rowsBy_0 rfl ?_
  refine g_getR dX11_rowsBy_1 fl_X11_55 sh_0 (al_0 hn) (fun _ _ _ => rfl) rf_0_7 ?_
  refine g_getI (J := 0) dX11_rowsBy_4 fl_X11_270 sh_52 (al_52 hn) (fun _ _ _ => rfl) rfl ?_
  obtain ⟨o1, w⟩ := w
  refine g_if_eq (tgt := 19) dX11_rowsBy_7 rfl o1 ?_
  refine ite_imp (fun w => ?_) (fun w => ?_) w
  · refine g_iconst dX11_rowsBy_19 ?_
    exact g_retI dX11_rowsBy_20 rfl w
  · refine g_iload_n dX11_rowsBy_10 rfl ?_
    refine g_iconst dX11_rowsBy_11 ?_
    refine g_iconst dX11_rowsBy_12 ?_
    refine g_callSI (n := 3) (As := [aI x1, aI 0, aI 1]) (st := []) dX11_rowsBy_13 ml_X11_145 rfl rfl (Nat.le_of_ble_eq_true rfl) rfl (RtI.mono w (fun r1 h1 w => ?_))
    obtain ⟨o2, w⟩ := w
    refine g_if_ne (tgt := 21) dX11_rowsBy_16 rfl o2 ?_
    refine ite_imp (fun w => ?_) (fun w => ?_) w
    · refine g_iload_n dX11_rowsBy_21 rfl ?_
      obtain ⟨o3, w⟩ := w
      refine g_if_ne (tgt := 35) dX11_rowsBy_22 rfl o3 ?_
      refine ite_imp (fun w => ?_) (fun w => ?_) w
      · refine g_aload_n dX11_rowsBy_35 rfl ?_
        refine g_getR dX11_rowsBy_36 fl_X11_55 sh_0 (al_0 hn) (fun _ _ _ => rfl) rf_0_7 ?_
        refine g_getI (J := 4) dX11_rowsBy_39 fl_X11_279 sh_52 (al_52 hn) (fun _ _ _ => rfl) rfl ?_
        exact g_retI dX11_rowsBy_42 rfl w
      · refine g_aload_n dX11_rowsBy_25 rfl ?_
        refine g_getR dX11_rowsBy_26 fl_X11_55 sh_0 (al_0 hn) (fun _ _ _ => rfl) rf_0_7 ?_
        refine g_getI (J := 3) dX11_rowsBy_29 fl_X11_276 sh_52 (al_52 hn) (fun _ _ _ => rfl) rfl ?_
        refine g_goto (tgt := 42) dX11_rowsBy_32 rfl ?_
        exact g_retI dX11_rowsBy_42 rfl w
    · refine g_iconst dX11_rowsBy_19 ?_
      exact g_retI dX11_rowsBy_20 rfl w
theorem b_X11_swaps_30 {l : Launch} {D : Nat} {ζ : ZP} {h : HI} {Q : Int → HI → Prop} {x2 x3 : Int} (hn : 144 ≤ ζ.2.2.2.2) (w : (rg x3) ∧ (rg x2) ∧ (if x2 ≤ x3 then (RtV l D mX6_find (zz ζ) [aP 65] h (fun h1 => Q (h1 65 3) h1)) else ((0 ≤ x3 ∧ x3 < 60) ∧ (0 ≤ (h 51 x3) ∧ (h 51 x3) < 60) ∧ (0 ≤ x3 ∧ x3 < 40) ∧ G l (D + 1) 0 0 mX11_swaps (zz ζ) 30 [aP 0, aU, aI x2, aI (x3 + 1)] [] (hu h 66 x3 (h 44 (h 51 x3))) (qI (zz ζ) Q)))) : G l (D + 1) 0 0 mX11_swaps (zz ζ) 30 [aP 0, aU, aI x2, aI x3] [] h (qI (zz ζ) Q) := by
  refine g_iload_n dX11_swaps_30 rfl ?_
  refine g_iload_n dX11_swaps_31 rfl ?_
  obtain ⟨o1, w⟩ := w
  obtain ⟨o2, w⟩ := w
  refine g_cmp_ge (tgt := 64) dX11_swaps_32 rfl o1 o2 ?_
  refine ite_imp (fun w => ?_) (fun w => ?_) w
  · refine g_aload_n dX11_swaps_64 rfl ?_
    refine g_getR dX11_swaps_65 fl_X11_62 sh_0 (al_0 hn) (fun _ _ _ => rfl) rf_0_8 ?_
    refine g_callVV (n := 0) (As := []) (st := []) dX11_swaps_68 ml_X11_284 sh_65 rfl (al_65 hn) rfl rfl (Nat.le_of_ble_eq_true rfl) (RtV.mono w (fun h1 w => ?_))
    refine g_aload_n dX11_swaps_71 rfl ?_
    refine g_getR dX11_swaps_72 fl_X11_62 sh_0 (al_0 hn) (fun _ _ _ => rfl) rf_0_8 ?_
    refine g_getI (J := 3) dX11_swaps_75 fl_X11_285 sh_65 (al_65 hn) (fun _ _ _ => rfl) rfl ?_
    exact g_retI dX11_swaps_78 rfl w
  · refine g_aload_n dX11_swaps_35 rfl ?_
    refine g_getR dX11_swaps_36 fl_X11_62 sh_0 (al_0 hn) (fun _ _ _ => rfl) rf_0_8 ?_
    refine g_getR dX11_swaps_39 fl_X11_283 sh_65 (al_65 hn) (fun _ _ _ => rfl) rf_65_1 ?_
    refine g_iload_n dX11_swaps_42 rfl ?_
    refine g_aload_n dX11_swaps_43 rfl ?_
    refine g_getR dX11_swaps_44 fl_X11_44 sh_0 (al_0 hn) (fun _ _ _ => rfl) rf_0_5 ?_
    refine g_getR dX11_swaps_47 fl_X11_257 sh_40 (al_40 hn) (fun _ _ _ => rfl) rf_40_4 ?_
    refine g_aload_n dX11_swaps_50 rfl ?_
    refine g_getR dX11_swaps_51 fl_X11_48 sh_0 (al_0 hn) (fun _ _ _ => rfl) rf_0_6 ?_
    refine g_iload_n dX11_swaps_54 rfl ?_
    obtain ⟨o3, w⟩ := w
    refine g_iald dX11_swaps_55 sh_51 (al_51 hn) (Nat.le_of_ble_eq_true rfl) o3 ?_
    obtain ⟨o4, w⟩ := w
    refine g_iald dX11_swaps_56 sh_44 (al_44 hn) (Nat.le_of_ble_eq_true rfl) o4 ?_
    obtain ⟨o5, w⟩ := w
    refine g_iast dX11_swaps_57 sh_66 (al_66 hn) (Nat.le_of_ble_eq_true rfl) o5 ?_
    refine g_iinc (ls' := [aP 0, aU, aI x2, aI (x3 + 1)]) dX11_swaps_58 rfl (Nat.le_of_ble_eq_true rfl) rfl rfl ?_
    refine g_goto (tgt := 30) dX11_swaps_61 rfl ?_
    exact g_sub (ls' := [aP 0, aU, aI x2, aI (x3 + 1)]) ⟨Or.inr rfl, Or.inl rfl, Or.inr rfl, Or.inr rfl, trivial⟩ w
theorem e_X11_swaps {l : Launch} {D : Nat} {ζ : ZP} {h : HI} {Q : Int → HI → Prop} {x1 : Int} (hn : 144 ≤ ζ.2.2.2.2) (w : RtI l D mX11_pickCells (zz ζ) [aP 0, aI 2, aI 40, aI 0] h (fun r1 h1 => RtI l D mX11_divides (zz ζ) [aI x1, aI r1] h1 (fun r2 h2 => (rg r2) ∧ (if ¬ r2 = 0 then (RtV l D mX6_start (zz ζ) [aP 65, aI r1, aI x1] h2 (fun h3 => G l (D + 1) 0 0 mX11_swaps (zz ζ) 30 [aP 0, aU, aI r1, aI 0] [] h3 (qI (zz ζ) Q))) else (Q (-1) h2))))) : RtI l (D + 1) mX11_swaps (zz ζ) [aP 0, aI x1] h Q := by
  refine RtI.of 2 pn_X11 [aP 0, aI x1, aU, aU] rfl rfl ?_
  refine g_aload_n dX11_swaps_0 rfl ?_
  refine g_iconst dX11_swaps_1 ?_
  refine g_bipush dX11_swaps_2 rfl ?_
  refine g_iconst dX11_swaps_4 ?_
  refine g_callVI (n := 3) (As := [aI 2, aI 40, aI 0]) (st := []) dX11_swaps_5 ml_X11_245 sh_0 rfl (al_0 hn) rfl rfl (Nat.le_of_ble_eq_true rfl) (RtI.mono w (fun r1 h1 w => ?_))
  refine g_istore_n (ls' := [aP 0, aI x1, aI r1, aU]) dX11_swaps_8 (Nat.le_of_ble_eq_true rfl) rfl rfl ?_
  refine g_iload_n dX11_swaps_9 rfl ?_
  refine g_iload_n dX11_swaps_10 rfl ?_
  refine g_callSI (n := 2) (As := [aI x1, aI r1]) (st := []) dX11_swaps_11 ml_X11_249 rfl rfl (Nat.le_of_ble_eq_true rfl) rfl (RtI.mono w (fun r2 h2 w => ?_))
  obtain ⟨o1, w⟩ := w
  refine g_if_ne (tgt := 19) dX11_swaps_14 rfl o1 ?_
  refine ite_imp (fun w => ?_) (fun w => ?_) w
  · refine g_aload_n dX11_swaps_19 rfl ?_
    refine g_getR dX11_swaps_20 fl_X11_62 sh_0 (al_0 hn) (fun _ _ _ => rfl) rf_0_8 ?_
    refine g_iload_n dX11_swaps_23 rfl ?_
    refine g_iload_n dX11_swaps_24 rfl ?_
    refine g_callVV (n := 2) (As := [aI r1, aI x1]) (st := []) dX11_swaps_25 ml_X11_282 sh_65 rfl (al_65 hn) rfl rfl (Nat.le_of_ble_eq_true rfl) (RtV.mono w (fun h3 w => ?_))
    refine g_iconst dX11_swaps_28 ?_
    refine g_istore_n (ls' := [aP 0, aI x1, aI r1, aI 0]) dX11_swaps_29 (Nat.le_of_ble_eq_true rfl) rfl rfl ?_
    exact g_sub (ls' := [aP 0, aU, aI r1, aI 0]) ⟨Or.inr rfl, Or.inl rfl, Or.inr rfl, Or.inr rfl, trivial⟩ w
  · refine g_iconst dX11_swaps_17 ?_
    exact g_retI dX11_swaps_18 rfl w
theorem e_X11_swapAt {l : Launch} {D : Nat} {ζ : ZP} {h : HI} {Q : Int → HI → Prop} {x1 : Int} (hn : 144 ≤ ζ.2.2.2.2) (w : RtI l D mX11_within (zz ζ) [aI x1, aI 0, aI ((h 65 0) - 1)] h (fun r1 h1 => (rg r1) ∧ (if r1 = 0 then (Q (-1) h1) else ((0 ≤ x1 ∧ x1 < 40) ∧ Q (h1 67 x1) h1)))) : RtI l (D + 1) mX11_swapAt (zz ζ) [aP 0, aI x1] h Q := by
  refine RtI.of 0 pn_X11 [aP 0, aI x1] rfl rfl ?_
  refine g_iload_n dX11_swapAt_0 rfl ?_
  refine g_iconst dX11_swapAt_1 ?_
  refine g_aload_n dX11_swapAt_2 rfl ?_
  refine g_getR dX11_swapAt_3 fl_X11_62 sh_0 (al_0 hn) (fun _ _ _ => rfl) rf_0_8 ?_
  refine g_getI (J := 0) dX11_swapAt_6 fl_X11_286 sh_65 (al_65 hn) (fun _ _ _ => rfl) rfl ?_
  refine g_iconst dX11_swapAt_9 ?_
  refine g_isub dX11_swapAt_10 ?_
  refine g_callSI (n := 3) (As := [aI x1, aI 0, aI ((h 65 0) - 1)]) (st := []) dX11_swapAt_11 ml_X11_145 rfl rfl (Nat.le_of_ble_eq_true rfl) rfl (RtI.mono w (fun r1 h1 w => ?_))
  obtain ⟨o1, w⟩ := w
  refine g_if_eq (tgt := 29) dX11_swapAt_14 rfl o1 ?_
  refine ite_imp (fun w => ?_) (fun w => ?_) w
  · refine g_iconst dX11_swapAt_29 ?_
    exact g_retI dX11_swapAt_30 rfl w
  · refine g_aload_n dX11_swapAt_17 rfl ?_
    refine g_getR dX11_swapAt_18 fl_X11_62 sh_0 (al_0 hn) (fun _ _ _ => rfl) rf_0_8 ?_
    refine g_getR dX11_swapAt_21 fl_X11_287 sh_65 (al_65 hn) (fun _ _ _ => rfl) rf_65_2 ?_
    refine g_iload_n dX11_swapAt_24 rfl ?_
    obtain ⟨o2, w⟩ := w
    refine g_iald dX11_swapAt_25 sh_67 (al_67 hn) (Nat.le_of_ble_eq_true rfl) o2 ?_
    refine g_goto (tgt := 30) dX11_swapAt_26 rfl ?_
    exact g_retI dX11_swapAt_30 rfl w
theorem e_X11_swapsBy {l : Launch} {D : Nat} {ζ : ZP} {h : HI} {Q : Int → HI → Prop} {x1 : Int} (hn : 144 ≤ ζ.2.2.2.2) (w : (rg (h 65 0)) ∧ (if (h 65 0) = 0 then (Q (-1) h) else (RtI l D mX11_within (zz ζ) [aI x1, aI 0, aI 2] h (fun r1 h1 => (rg r1) ∧ (if ¬ r1 = 0 then ((rg x1) ∧ (if ¬ x1 = 0 then (if ¬ x1 = 1 then (Q ((h1 65 4) - (h1 65 3)) h1) else (Q (h1 65 6) h1)) else (Q (h1 65 5) h1))) else (Q (-1) h1)))))) : RtI l (D + 1) mX11_swapsBy (zz ζ) [aP 0, aI x1] h Q := by
  refine RtI.of 0 pn_X11 [aP 0, aI x1] rfl rfl ?_
  refine g_aload_n dX11_swapsBy_0 rfl ?_
  refine g_getR dX11_swapsBy_1 fl_X11_62 sh_0 (al_0 hn) (fun _ _ _ => rfl) rf_0_8 ?_
  refine g_getI (J := 0) dX11_swapsBy_4 fl_X11_286 sh_65 (al_65 hn) (fun _ _ _ => rfl) rfl ?_
  obtain ⟨o1, w⟩ := w
  refine g_if_eq (tgt := 19) dX11_swapsBy_7 rfl o1 ?_
  refine ite_imp (fun w => ?_) (fun w => ?_) w
  · refine g_iconst dX11_swapsBy_19 ?_
    exact g_retI dX11_swapsBy_20 rfl w
  · refine g_iload_n dX11_swapsBy_10 rfl ?_
    refine g_iconst dX11_swapsBy_11 ?_
    refine g_iconst dX11_swapsBy_12 ?_
    refine g_callSI (n := 3) (As := [aI x1, aI 0, aI 2]) (st := []) dX11_swapsBy_13 ml_X11_145 rfl rfl (Nat.le_of_ble_eq_true rfl) rfl (RtI.mono w (fun r1 h1 w => ?_))
    obtain ⟨o2, w⟩ := w
    refine g_if_ne (tgt := 21) dX11_swapsBy_16 rfl o2 ?_
    refine ite_imp (fun w => ?_) (fun w => ?_) w
    · refine g_iload_n dX11_swapsBy_21 rfl ?_
      obtain ⟨o3, w⟩ := w
      refine g_if_ne (tgt := 33) dX11_swapsBy_22 rfl o3 ?_
      refine ite_imp (fun w => ?_) (fun w => ?_) w
      · refine g_iload_n dX11_swapsBy_33 rfl ?_
        refine g_iconst dX11_swapsBy_34 ?_
        refine g_cmp_ne (tgt := 48) dX11_swapsBy_35 rfl o3 (by decide) ?_
        refine ite_imp (fun w => ?_) (fun w => ?_) w
        · refine g_aload_n dX11_swapsBy_48 rfl ?_
          refine g_getR dX11_swapsBy_49 fl_X11_62 sh_0 (al_0 hn) (fun _ _ _ => rfl) rf_0_8 ?_
          refine g_getI (J := 4) dX11_swapsBy_52 fl_X11_296 sh_65 (al_65 hn) (fun _ _ _ => rfl) rfl ?_
          refine g_aload_n dX11_swapsBy_55 rfl ?_
          refine g_getR dX11_swapsBy_56 fl_X11_62 sh_0 (al_0 hn) (fun _ _ _ => rfl) rf_0_8 ?_
          refine g_getI (J := 3) dX11_swapsBy_59 fl_X11_285 sh_65 (al_65 hn) (fun _ _ _ => rfl) rfl ?_
          refine g_isub dX11_swapsBy_62 ?_
          exact g_retI dX11_swapsBy_63 rfl w
        · refine g_aload_n dX11_swapsBy_38 rfl ?_
          refine g_getR dX11_swapsBy_39 fl_X11_62 sh_0 (al_0 hn) (fun _ _ _ => rfl) rf_0_8 ?_
          refine g_getI (J := 6) dX11_swapsBy_42 fl_X11_293 sh_65 (al_65 hn) (fun _ _ _ => rfl) rfl ?_
          refine g_goto (tgt := 63) dX11_swapsBy_45 rfl ?_
          exact g_retI dX11_swapsBy_63 rfl w
      · refine g_aload_n dX11_swapsBy_25 rfl ?_
        refine g_getR dX11_swapsBy_26 fl_X11_62 sh_0 (al_0 hn) (fun _ _ _ => rfl) rf_0_8 ?_
        refine g_getI (J := 5) dX11_swapsBy_29 fl_X11_290 sh_65 (al_65 hn) (fun _ _ _ => rfl) rfl ?_
        exact g_retI dX11_swapsBy_32 rfl w
    · refine g_iconst dX11_swapsBy_19 ?_
      exact g_retI dX11_swapsBy_20 rfl w
theorem e_X11_most {l : Launch} {D : Nat} {ζ : ZP} {h : HI} {Q : Int → HI → Prop} {x1 x2 x3 : Int} (hn : 144 ≤ ζ.2.2.2.2) (w : RtI l D mX11_pickCells (zz ζ) [aP 0, aI 1, aI 60, aI 0] h (fun r1 h1 => (rg r1) ∧ (if r1 = (-1) then (Q (-1) h1) else (RtI l D mX11_within (zz ζ) [aI x1, aI 1, aI 20] h1 (fun r2 h2 => (rg r2) ∧ (if r2 = 0 then (Q (-1) h2) else (RtI l D mX11_within (zz ζ) [aI x2, aI 1, aI 2] h2 (fun r3 h3 => (rg r3) ∧ (if r3 = 0 then (Q (-1) h3) else (RtI l D mX11_within (zz ζ) [aI x3, aI 1, aI 800] h3 (fun r4 h4 => (rg r4) ∧ (if ¬ r4 = 0 then ((rg x2) ∧ (if ¬ x2 = 1 then (RtI l D mX11_strongPairs (zz ζ) [aP 0, aI r1, aI x3] h4 (fun r5 h5 => RtI l D mX11_cut (zz ζ) [aI r5, aI x1] h5 (fun r6 h6 => Q r6 h6))) else (RtI l D mX11_strongCells (zz ζ) [aP 0, aI r1, aI x3] h4 (fun r7 h7 => RtI l D mX11_cut (zz ζ) [aI r7, aI x1] h7 (fun r8 h8 => Q r8 h8))))) else (Q (-1) h4))))))))))))) : RtI l (D + 1) mX11_most (zz ζ) [aP 0, aI x1, aI x2, aI x3] h Q := by
  refine RtI.of 1 pn_X11 [aP 0, aI x1, aI x2, aI x3, aU] rfl rfl ?_
  refine g_aload_n dX11_most_0 rfl ?_
  refine g_iconst dX11_most_1 ?_
  refine g_bipush dX11_most_2 rfl ?_
  refine g_iconst dX11_most_4 ?_
  refine g_callVI (n := 3) (As := [aI 1, aI 60, aI 0]) (st := []) dX11_most_5 ml_X11_245 sh_0 rfl (al_0 hn) rfl rfl (Nat.le_of_ble_eq_true rfl) (RtI.mono w (fun r1 h1 w => ?_))
  refine g_istore (ls' := [aP 0, aI x1, aI x2, aI x3, aI r1]) dX11_most_8 (Nat.le_of_ble_eq_true rfl) rfl rfl ?_
  refine g_iload dX11_most_10 rfl ?_
  refine g_iconst dX11_most_12 ?_
  obtain ⟨o1, w⟩ := w
  refine g_cmp_eq (tgt := 46) dX11_most_13 rfl o1 (by decide) ?_
  refine ite_imp (fun w => ?_) (fun w => ?_) w
  · refine g_iconst dX11_most_46 ?_
    exact g_retI dX11_most_47 rfl w
  · refine g_iload_n dX11_most_16 rfl ?_
    refine g_iconst dX11_most_17 ?_
    refine g_bipush dX11_most_18 rfl ?_
    refine g_callSI (n := 3) (As := [aI x1, aI 1, aI 20]) (st := []) dX11_most_20 ml_X11_145 rfl rfl (Nat.le_of_ble_eq_true rfl) rfl (RtI.mono w (fun r2 h2 w => ?_))
    obtain ⟨o2, w⟩ := w
    refine g_if_eq (tgt := 46) dX11_most_23 rfl o2 ?_
    refine ite_imp (fun w => ?_) (fun w => ?_) w
    · refine g_iconst dX11_most_46 ?_
      exact g_retI dX11_most_47 rfl w
    · refine g_iload_n dX11_most_26 rfl ?_
      refine g_iconst dX11_most_27 ?_
      refine g_iconst dX11_most_28 ?_
      refine g_callSI (n := 3) (As := [aI x2, aI 1, aI 2]) (st := []) dX11_most_29 ml_X11_145 rfl rfl (Nat.le_of_ble_eq_true rfl) rfl (RtI.mono w (fun r3 h3 w => ?_))
      obtain ⟨o3, w⟩ := w
      refine g_if_eq (tgt := 46) dX11_most_32 rfl o3 ?_
      refine ite_imp (fun w => ?_) (fun w => ?_) w
      · refine g_iconst dX11_most_46 ?_
        exact g_retI dX11_most_47 rfl w
      · refine g_iload_n dX11_most_35 rfl ?_
        refine g_iconst dX11_most_36 ?_
        refine g_sipush dX11_most_37 rfl ?_
        refine g_callSI (n := 3) (As := [aI x3, aI 1, aI 800]) (st := []) dX11_most_40 ml_X11_145 rfl rfl (Nat.le_of_ble_eq_true rfl) rfl (RtI.mono w (fun r4 h4 w => ?_))
        obtain ⟨o4, w⟩ := w
        refine g_if_ne (tgt := 48) dX11_most_43 rfl o4 ?_
        refine ite_imp (fun w => ?_) (fun w => ?_) w
        · refine g_iload_n dX11_most_48 rfl ?_
          refine g_iconst dX11_most_49 ?_
          obtain ⟨o5, w⟩ := w
          refine g_cmp_ne (tgt := 63) dX11_most_50 rfl o5 (by decide) ?_
          refine ite_imp (fun w => ?_) (fun w => ?_) w
          · refine g_aload_n dX11_most_63 rfl ?_
            refine g_iload dX11_most_64 rfl ?_
            refine g_iload_n dX11_most_66 rfl ?_
            refine g_callVI (n := 2) (As := [aI r1, aI x3]) (st := []) dX11_most_67 ml_X11_302 sh_0 rfl (al_0 hn) rfl rfl (Nat.le_of_ble_eq_true rfl) (RtI.mono w (fun r5 h5 w => ?_))
            refine g_iload_n dX11_most_70 rfl ?_
            refine g_callSI (n := 2) (As := [aI r5, aI x1]) (st := []) dX11_most_71 ml_X11_219 rfl rfl (Nat.le_of_ble_eq_true rfl) rfl (RtI.mono w (fun r6 h6 w => ?_))
            exact g_retI dX11_most_74 rfl w
          · refine g_aload_n dX11_most_53 rfl ?_
            refine g_iload dX11_most_54 rfl ?_
            refine g_iload_n dX11_most_56 rfl ?_
            refine g_callVI (n := 2) (As := [aI r1, aI x3]) (st := []) dX11_most_57 ml_X11_299 sh_0 rfl (al_0 hn) rfl rfl (Nat.le_of_ble_eq_true rfl) (RtI.mono w (fun r7 h7 w => ?_))
            refine g_goto (tgt := 70) dX11_most_60 rfl ?_
            refine g_iload_n dX11_most_70 rfl ?_
            refine g_callSI (n := 2) (As := [aI r7, aI x1]) (st := []) dX11_most_71 ml_X11_219 rfl rfl (Nat.le_of_ble_eq_true rfl) rfl (RtI.mono w (fun r8 h8 w => ?_))
            exact g_retI dX11_most_74 rfl w
        · refine g_iconst dX11_most_46 ?_
          exact g_retI dX11_most_47 rfl w
theorem b_X11_share_39 {l : Launch} {D : Nat} {ζ : ZP} {h : HI} {Q : Int → HI → Prop} {x1 x2 x3 : Int} (hn : 144 ≤ ζ.2.2.2.2) (w : (rg x3) ∧ (rg x2) ∧ (if x2 ≤ x3 then (RtV l D mX4_start (zz ζ) [aP 70, aI x2, aI x1] h (fun h1 => G l (D + 1) 0 0 mX11_share (zz ζ) 80 [aP 0, aU, aI x2, aI 0] [] h1 (qI (zz ζ) Q))) else (RtI l D mX7_at (zz ζ) [aP 1, aI x3] h (fun r2 h2 => RtI l D mX11_within (zz ζ) [aI r2, aI 1, aI 99] h2 (fun r3 h3 => (rg r3) ∧ (if ¬ r3 = 0 then (G l (D + 1) 0 0 mX11_share (zz ζ) 39 [aP 0, aI x1, aI x2, aI (x3 + 1)] [] h3 (qI (zz ζ) Q)) else (Q (-1) h3))))))) : G l (D + 1) 0 0 mX11_share (zz ζ) 39 [aP 0, aI x1, aI x2, aI x3] [] h (qI (zz ζ) Q) := by
  refine g_iload_n dX11_share_39 rfl ?_
  refine g_iload_n dX11_share_40 rfl ?_
  obtain ⟨o1, w⟩ := w
  obtain ⟨o2, w⟩ := w
  refine g_cmp_ge (tgt := 69) dX11_share_41 rfl o1 o2 ?_
  refine ite_imp (fun w => ?_) (fun w => ?_) w
  · refine g_aload_n dX11_share_69 rfl ?_
    refine g_getR dX11_share_70 fl_X11_69 sh_0 (al_0 hn) (fun _ _ _ => rfl) rf_0_9 ?_
    refine g_iload_n dX11_share_73 rfl ?_
    refine g_iload_n dX11_share_74 rfl ?_
    refine g_callVV (n := 2) (As := [aI x2, aI x1]) (st := []) dX11_share_75 ml_X11_308 sh_70 rfl (al_70 hn) rfl rfl (Nat.le_of_ble_eq_true rfl) (RtV.mono w (fun h1 w => ?_))
    refine g_iconst dX11_share_78 ?_
    refine g_istore_n (ls' := [aP 0, aI x1, aI x2, aI 0]) dX11_share_79 (Nat.le_of_ble_eq_true rfl) rfl rfl ?_
    exact g_sub (ls' := [aP 0, aU, aI x2, aI 0]) ⟨Or.inr rfl, Or.inl rfl, Or.inr rfl, Or.inr rfl, trivial⟩ w
  · refine g_aload_n dX11_share_44 rfl ?_
    refine g_getR dX11_share_45 fl_X11_10 sh_0 (al_0 hn) (fun _ _ _ => rfl) rf_0_0 ?_
    refine g_iload_n dX11_share_48 rfl ?_
    refine g_callVI (n := 1) (As := [aI x3]) (st := []) dX11_share_49 ml_X11_305 sh_1 rfl (al_1 hn) rfl rfl (Nat.le_of_ble_eq_true rfl) (RtI.mono w (fun r2 h2 w => ?_))
    refine g_iconst dX11_share_52 ?_
    refine g_bipush dX11_share_53 rfl ?_
    refine g_callSI (n := 3) (As := [aI r2, aI 1, aI 99]) (st := []) dX11_share_55 ml_X11_145 rfl rfl (Nat.le_of_ble_eq_true rfl) rfl (RtI.mono w (fun r3 h3 w => ?_))
    obtain ⟨o3, w⟩ := w
    refine g_if_ne (tgt := 63) dX11_share_58 rfl o3 ?_
    refine ite_imp (fun w => ?_) (fun w => ?_) w
    · refine g_iinc (ls' := [aP 0, aI x1, aI x2, aI (x3 + 1)]) dX11_share_63 rfl (Nat.le_of_ble_eq_true rfl) rfl rfl ?_
      refine g_goto (tgt := 39) dX11_share_66 rfl ?_
      exact g_sub (ls' := [aP 0, aI x1, aI x2, aI (x3 + 1)]) ⟨Or.inr rfl, Or.inr rfl, Or.inr rfl, Or.inr rfl, trivial⟩ w
    · refine g_iconst dX11_share_61 ?_
      exact g_retI dX11_share_62 rfl w
theorem b_X11_share_80 {l : Launch} {D : Nat} {ζ : ZP} {h : HI} {Q : Int → HI → Prop} {x2 x3 : Int} (hn : 144 ≤ ζ.2.2.2.2) (w : (rg x3) ∧ (rg x2) ∧ (if x2 ≤ x3 then (RtV l D mX4_find (zz ζ) [aP 70] h (fun h1 => Q (h1 70 3) h1)) else (RtI l D mX7_at (zz ζ) [aP 1, aI x3] h (fun r2 h2 => (0 ≤ x3 ∧ x3 < 9) ∧ G l (D + 1) 0 0 mX11_share (zz ζ) 80 [aP 0, aU, aI x2, aI (x3 + 1)] [] (hu h2 71 x3 r2) (qI (zz ζ) Q))))) : G l (D + 1) 0 0 mX11_share (zz ζ) 80 [aP 0, aU, aI x2, aI x3] [] h (qI (zz ζ) Q) := by
  refine g_iload_n dX11_share_80 rfl ?_
  refine g_iload_n dX11_share_81 rfl ?_
  obtain ⟨o1, w⟩ := w
  obtain ⟨o2, w⟩ := w
  refine g_cmp_ge (tgt := 108) dX11_share_82 rfl o1 o2 ?_
  refine ite_imp (fun w => ?_) (fun w => ?_) w
  · refine g_aload_n dX11_share_108 rfl ?_
    refine g_getR dX11_share_109 fl_X11_69 sh_0 (al_0 hn) (fun _ _ _ => rfl) rf_0_9 ?_
    refine g_callVV (n := 0) (As := []) (st := []) dX11_share_112 ml_X11_312 sh_70 rfl (al_70 hn) rfl rfl (Nat.le_of_ble_eq_true rfl) (RtV.mono w (fun h1 w => ?_))
    refine g_aload_n dX11_share_115 rfl ?_
    refine g_getR dX11_share_116 fl_X11_69 sh_0 (al_0 hn) (fun _ _ _ => rfl) rf_0_9 ?_
    refine g_getI (J := 3) dX11_share_119 fl_X11_313 sh_70 (al_70 hn) (fun _ _ _ => rfl) rfl ?_
    exact g_retI dX11_share_122 rfl w
  · refine g_aload_n dX11_share_85 rfl ?_
    refine g_getR dX11_share_86 fl_X11_69 sh_0 (al_0 hn) (fun _ _ _ => rfl) rf_0_9 ?_
    refine g_getR dX11_share_89 fl_X11_309 sh_70 (al_70 hn) (fun _ _ _ => rfl) rf_70_1 ?_
    refine g_iload_n dX11_share_92 rfl ?_
    refine g_aload_n dX11_share_93 rfl ?_
    refine g_getR dX11_share_94 fl_X11_10 sh_0 (al_0 hn) (fun _ _ _ => rfl) rf_0_0 ?_
    refine g_iload_n dX11_share_97 rfl ?_
    refine g_callVI (n := 1) (As := [aI x3]) (st := [aI x3, aP 71]) dX11_share_98 ml_X11_305 sh_1 rfl (al_1 hn) rfl rfl (Nat.le_of_ble_eq_true rfl) (RtI.mono w (fun r2 h2 w => ?_))
    obtain ⟨o3, w⟩ := w
    refine g_iast dX11_share_101 sh_71 (al_71 hn) (Nat.le_of_ble_eq_true rfl) o3 ?_
    refine g_iinc (ls' := [aP 0, aU, aI x2, aI (x3 + 1)]) dX11_share_102 rfl (Nat.le_of_ble_eq_true rfl) rfl rfl ?_
    refine g_goto (tgt := 80) dX11_share_105 rfl ?_
    exact g_sub (ls' := [aP 0, aU, aI x2, aI (x3 + 1)]) ⟨Or.inr rfl, Or.inl rfl, Or.inr rfl, Or.inr rfl, trivial⟩ w
theorem e_X11_share {l : Launch} {D : Nat} {ζ : ZP} {h : HI} {Q : Int → HI → Prop} {x1 : Int} (hn : 144 ≤ ζ.2.2.2.2) (w : RtI l D mX11_within (zz ζ) [aI (h 1 1), aI 1, aI 9] (hu h 1 1 0) (fun r1 h1 => (rg r1) ∧ (if r1 = 0 then (Q (-1) h1) else (RtI l D mX11_within (zz ζ) [aI x1, aI 1, aI 4] h1 (fun r2 h2 => (rg r2) ∧ (if ¬ r2 = 0 then (G l (D + 1) 0 0 mX11_share (zz ζ) 39 [aP 0, aI x1, aI (h 1 1), aI 0] [] h2 (qI (zz ζ) Q)) else (Q (-1) h2))))))) : RtI l (D + 1) mX11_share (zz ζ) [aP 0, aI x1] h Q := by
  refine RtI.of 2 pn_X11 [aP 0, aI x1, aU, aU] rfl rfl ?_
  refine g_aload_n dX11_share_0 rfl ?_
  refine g_getR dX11_share_1 fl_X11_10 sh_0 (al_0 hn) (fun _ _ _ => rfl) rf_0_0 ?_
  refine g_getI (J := 1) dX11_share_4 fl_X11_100 sh_1 (al_1 hn) (fun _ _ _ => rfl) rfl ?_
  refine g_istore_n (ls' := [aP 0, aI x1, aI (h 1 1), aU]) dX11_share_7 (Nat.le_of_ble_eq_true rfl) rfl rfl ?_
  refine g_aload_n dX11_share_8 rfl ?_
  refine g_getR dX11_share_9 fl_X11_10 sh_0 (al_0 hn) (fun _ _ _ => rfl) rf_0_0 ?_
  refine g_iconst dX11_share_12 ?_
  refine g_putI (J := 1) dX11_share_13 fl_X11_100 sh_1 (al_1 hn) rfl rfl ?_
  refine g_iload_n dX11_share_16 rfl ?_
  refine g_iconst dX11_share_17 ?_
  refine g_bipush dX11_share_18 rfl ?_
  refine g_callSI (n := 3) (As := [aI (h 1 1), aI 1, aI 9]) (st := []) dX11_share_20 ml_X11_145 rfl rfl (Nat.le_of_ble_eq_true rfl) rfl (RtI.mono w (fun r1 h1 w => ?_))
  obtain ⟨o1, w⟩ := w
  refine g_if_eq (tgt := 35) dX11_share_23 rfl o1 ?_
  refine ite_imp (fun w => ?_) (fun w => ?_) w
  · refine g_iconst dX11_share_35 ?_
    exact g_retI dX11_share_36 rfl w
  · refine g_iload_n dX11_share_26 rfl ?_
    refine g_iconst dX11_share_27 ?_
    refine g_iconst dX11_share_28 ?_
    refine g_callSI (n := 3) (As := [aI x1, aI 1, aI 4]) (st := []) dX11_share_29 ml_X11_145 rfl rfl (Nat.le_of_ble_eq_true rfl) rfl (RtI.mono w (fun r2 h2 w => ?_))
    obtain ⟨o2, w⟩ := w
    refine g_if_ne (tgt := 37) dX11_share_32 rfl o2 ?_
    refine ite_imp (fun w => ?_) (fun w => ?_) w
    · refine g_iconst dX11_share_37 ?_
      refine g_istore_n (ls' := [aP 0, aI x1, aI (h 1 1), aI 0]) dX11_share_38 (Nat.le_of_ble_eq_true rfl) rfl rfl ?_
      exact g_sub (ls' := [aP 0, aI x1, aI (h 1 1), aI 0]) ⟨Or.inr rfl, Or.inr rfl, Or.inr rfl, Or.inr rfl, trivial⟩ w
    · refine g_iconst dX11_share_35 ?_
      exact g_retI dX11_share_36 rfl w
theorem e_X11_shareAt {l : Launch} {D : Nat} {ζ : ZP} {h : HI} {Q : Int → HI → Prop} {x1 : Int} (hn : 144 ≤ ζ.2.2.2.2) (w : RtI l D mX11_within (zz ζ) [aI x1, aI 0, aI ((h 70 0) - 1)] h (fun r1 h1 => (rg r1) ∧ (if r1 = 0 then (Q (-1) h1) else ((0 ≤ x1 ∧ x1 < 9) ∧ Q (h1 72 x1) h1)))) : RtI l (D + 1) mX11_shareAt (zz ζ) [aP 0, aI x1] h Q := by
  refine RtI.of 0 pn_X11 [aP 0, aI x1] rfl rfl ?_
  refine g_iload_n dX11_shareAt_0 rfl ?_
  refine g_iconst dX11_shareAt_1 ?_
  refine g_aload_n dX11_shareAt_2 rfl ?_
  refine g_getR dX11_shareAt_3 fl_X11_69 sh_0 (al_0 hn) (fun _ _ _ => rfl) rf_0_9 ?_
  refine g_getI (J := 0) dX11_shareAt_6 fl_X11_316 sh_70 (al_70 hn) (fun _ _ _ => rfl) rfl ?_
  refine g_iconst dX11_shareAt_9 ?_
  refine g_isub dX11_shareAt_10 ?_
  refine g_callSI (n := 3) (As := [aI x1, aI 0, aI ((h 70 0) - 1)]) (st := []) dX11_shareAt_11 ml_X11_145 rfl rfl (Nat.le_of_ble_eq_true rfl) rfl (RtI.mono w (fun r1 h1 w => ?_))
  obtain ⟨o1, w⟩ := w
  refine g_if_eq (tgt := 29) dX11_shareAt_14 rfl o1 ?_
  refine ite_imp (fun w => ?_) (fun w => ?_) w
  · refine g_iconst dX11_shareAt_29 ?_
    exact g_retI dX11_shareAt_30 rfl w
  · refine g_aload_n dX11_shareAt_17 rfl ?_
    refine g_getR dX11_shareAt_18 fl_X11_69 sh_0 (al_0 hn) (fun _ _ _ => rfl) rf_0_9 ?_
    refine g_getR dX11_shareAt_21 fl_X11_317 sh_70 (al_70 hn) (fun _ _ _ => rfl) rf_70_2 ?_
    refine g_iload_n dX11_shareAt_24 rfl ?_
    obtain ⟨o2, w⟩ := w
    refine g_iald dX11_shareAt_25 sh_72 (al_72 hn) (Nat.le_of_ble_eq_true rfl) o2 ?_
    refine g_goto (tgt := 30) dX11_shareAt_26 rfl ?_
    exact g_retI dX11_shareAt_30 rfl w
theorem e_X11_pack {l : Launch} {D : Nat} {ζ : ZP} {h : HI} {Q : Int → HI → Prop} {x1 x2 : Int} (hn : 144 ≤ ζ.2.2.2.2) (w : RtI l D mX11_pickCells (zz ζ) [aP 0, aI 2, aI 40, aI 1] h (fun r1 h1 => RtI l D mX11_divides (zz ζ) [aI x1, aI r1] h1 (fun r2 h2 => (rg r2) ∧ (if r2 = 0 then (Q (-1) h2) else (RtI l D mX11_within (zz ζ) [aI x2, aI 0, aI 999] h2 (fun r3 h3 => (rg r3) ∧ (if r3 = 0 then (Q (-1) h3) else ((rg (h3 10 0)) ∧ (if (h3 10 0) < 10 then (RtI l D mX1_make (zz ζ) [aP 10, aP 51, aI r1, aI x1, aI x2] h3 (fun r4 h4 => Q r4 h4)) else (Q (-1) h3)))))))))) : RtI l (D + 1) mX11_pack (zz ζ) [aP 0, aI x1, aI x2] h Q := by
  refine RtI.of 1 pn_X11 [aP 0, aI x1, aI x2, aU] rfl rfl ?_
  refine g_aload_n dX11_pack_0 rfl ?_
  refine g_iconst dX11_pack_1 ?_
  refine g_bipush dX11_pack_2 rfl ?_
  refine g_iconst dX11_pack_4 ?_
  refine g_callVI (n := 3) (As := [aI 2, aI 40, aI 1]) (st := []) dX11_pack_5 ml_X11_245 sh_0 rfl (al_0 hn) rfl rfl (Nat.le_of_ble_eq_true rfl) (RtI.mono w (fun r1 h1 w => ?_))
  refine g_istore_n (ls' := [aP 0, aI x1, aI x2, aI r1]) dX11_pack_8 (Nat.le_of_ble_eq_true rfl) rfl rfl ?_
  refine g_iload_n dX11_pack_9 rfl ?_
  refine g_iload_n dX11_pack_10 rfl ?_
  refine g_callSI (n := 2) (As := [aI x1, aI r1]) (st := []) dX11_pack_11 ml_X11_249 rfl rfl (Nat.le_of_ble_eq_true rfl) rfl (RtI.mono w (fun r2 h2 w => ?_))
  obtain ⟨o1, w⟩ := w
  refine g_if_eq (tgt := 43) dX11_pack_14 rfl o1 ?_
  refine ite_imp (fun w => ?_) (fun w => ?_) w
  · refine g_iconst dX11_pack_43 ?_
    exact g_retI dX11_pack_44 rfl w
  · refine g_iload_n dX11_pack_17 rfl ?_
    refine g_iconst dX11_pack_18 ?_
    refine g_sipush dX11_pack_19 rfl ?_
    refine g_callSI (n := 3) (As := [aI x2, aI 0, aI 999]) (st := []) dX11_pack_22 ml_X11_145 rfl rfl (Nat.le_of_ble_eq_true rfl) rfl (RtI.mono w (fun r3 h3 w => ?_))
    obtain ⟨o2, w⟩ := w
    refine g_if_eq (tgt := 43) dX11_pack_25 rfl o2 ?_
    refine ite_imp (fun w => ?_) (fun w => ?_) w
    · refine g_iconst dX11_pack_43 ?_
      exact g_retI dX11_pack_44 rfl w
    · refine g_aload_n dX11_pack_28 rfl ?_
      refine g_getR dX11_pack_29 fl_X11_19 sh_0 (al_0 hn) (fun _ _ _ => rfl) rf_0_1 ?_
      refine g_getR dX11_pack_32 fl_X11_188 sh_3 (al_3 hn) (fun _ _ _ => rfl) rf_3_2 ?_
      refine g_getI (J := 0) dX11_pack_35 fl_X11_318 sh_10 (al_10 hn) (fun _ _ _ => rfl) rfl ?_
      refine g_bipush dX11_pack_38 rfl ?_
      obtain ⟨o3, w⟩ := w
      refine g_cmp_lt (tgt := 45) dX11_pack_40 rfl o3 (by decide) ?_
      refine ite_imp (fun w => ?_) (fun w => ?_) w
      · refine g_aload_n dX11_pack_45 rfl ?_
        refine g_getR dX11_pack_46 fl_X11_19 sh_0 (al_0 hn) (fun _ _ _ => rfl) rf_0_1 ?_
        refine g_getR dX11_pack_49 fl_X11_188 sh_3 (al_3 hn) (fun _ _ _ => rfl) rf_3_2 ?_
        refine g_aload_n dX11_pack_52 rfl ?_
        refine g_getR dX11_pack_53 fl_X11_48 sh_0 (al_0 hn) (fun _ _ _ => rfl) rf_0_6 ?_
        refine g_iload_n dX11_pack_56 rfl ?_
        refine g_iload_n dX11_pack_57 rfl ?_
        refine g_iload_n dX11_pack_58 rfl ?_
        refine g_callVI (n := 4) (As := [aP 51, aI r1, aI x1, aI x2]) (st := []) dX11_pack_59 ml_X11_319 sh_10 rfl (al_10 hn) rfl rfl (Nat.le_of_ble_eq_true rfl) (RtI.mono w (fun r4 h4 w => ?_))
        exact g_retI dX11_pack_62 rfl w
      · refine g_iconst dX11_pack_43 ?_
        exact g_retI dX11_pack_44 rfl w
-- X11_row: not walked (new)
theorem e_X11_inPack {l : Launch} {D : Nat} {ζ : ZP} {h : HI} {Q : Int → HI → Prop} {x1 x2 : Int} (hn : 144 ≤ ζ.2.2.2.2) (w : RtI l D mX1_has (zz ζ) [aP 10, aI x1] h (fun r1 h1 => (rg r1) ∧ (if r1 = 0 then (Q (-1) h1) else ((0 ≤ x1 ∧ x1 < 10) ∧ RtI l D mX11_within (zz ζ) [aI x2, aI 0, aI ((h1 13 x1) - 1)] h1 (fun r2 h2 => (rg r2) ∧ (if ¬ r2 = 0 then (RtI l D mX1_cellAt (zz ζ) [aP 10, aI x1, aI x2] h2 (fun r3 h3 => Q r3 h3)) else (Q (-1) h2))))))) : RtI l (D + 1) mX11_inPack (zz ζ) [aP 0, aI x1, aI x2] h Q := by
  refine RtI.of 0 pn_X11 [aP 0, aI x1, aI x2] rfl rfl ?_
  refine g_aload_n dX11_inPack_0 rfl ?_
  refine g_getR dX11_inPack_1 fl_X11_19 sh_0 (al_0 hn) (fun _ _ _ => rfl) rf_0_1 ?_
  refine g_getR dX11_inPack_4 fl_X11_188 sh_3 (al_3 hn) (fun _ _ _ => rfl) rf_3_2 ?_
  refine g_iload_n dX11_inPack_7 rfl ?_
  refine g_callVI (n := 1) (As := [aI x1]) (st := []) dX11_inPack_8 ml_X11_323 sh_10 rfl (al_10 hn) rfl rfl (Nat.le_of_ble_eq_true rfl) (RtI.mono w (fun r1 h1 w => ?_))
  obtain ⟨o1, w⟩ := w
  refine g_if_eq (tgt := 36) dX11_inPack_11 rfl o1 ?_
  refine ite_imp (fun w => ?_) (fun w => ?_) w
  · refine g_iconst dX11_inPack_36 ?_
    exact g_retI dX11_inPack_37 rfl w
  · refine g_iload_n dX11_inPack_14 rfl ?_
    refine g_iconst dX11_inPack_15 ?_
    refine g_aload_n dX11_inPack_16 rfl ?_
    refine g_getR dX11_inPack_17 fl_X11_19 sh_0 (al_0 hn) (fun _ _ _ => rfl) rf_0_1 ?_
    refine g_getR dX11_inPack_20 fl_X11_188 sh_3 (al_3 hn) (fun _ _ _ => rfl) rf_3_2 ?_
    refine g_getR dX11_inPack_23 fl_X11_339 sh_10 (al_10 hn) (fun _ _ _ => rfl) rf_10_3 ?_
    refine g_iload_n dX11_inPack_26 rfl ?_
    obtain ⟨o2, w⟩ := w
    refine g_iald dX11_inPack_27 sh_13 (al_13 hn) (Nat.le_of_ble_eq_true rfl) o2 ?_
    refine g_iconst dX11_inPack_28 ?_
    refine g_isub dX11_inPack_29 ?_
    refine g_callSI (n := 3) (As := [aI x2, aI 0, aI ((h1 13 x1) - 1)]) (st := []) dX11_inPack_30 ml_X11_145 rfl rfl (Nat.le_of_ble_eq_true rfl) rfl (RtI.mono w (fun r2 h2 w => ?_))
    obtain ⟨o3, w⟩ := w
    refine g_if_ne (tgt := 38) dX11_inPack_33 rfl o3 ?_
    refine ite_imp (fun w => ?_) (fun w => ?_) w
    · refine g_aload_n dX11_inPack_38 rfl ?_
      refine g_getR dX11_inPack_39 fl_X11_19 sh_0 (al_0 hn) (fun _ _ _ => rfl) rf_0_1 ?_
      refine g_getR dX11_inPack_42 fl_X11_188 sh_3 (al_3 hn) (fun _ _ _ => rfl) rf_3_2 ?_
      refine g_iload_n dX11_inPack_45 rfl ?_
      refine g_iload_n dX11_inPack_46 rfl ?_
      refine g_callVI (n := 2) (As := [aI x1, aI x2]) (st := []) dX11_inPack_47 ml_X11_341 sh_10 rfl (al_10 hn) rfl rfl (Nat.le_of_ble_eq_true rfl) (RtI.mono w (fun r3 h3 w => ?_))
      exact g_retI dX11_inPack_50 rfl w
    · refine g_iconst dX11_inPack_36 ?_
      exact g_retI dX11_inPack_37 rfl w
theorem e_X11_life {l : Launch} {D : Nat} {ζ : ZP} {h : HI} {Q : Int → HI → Prop} {x1 : Int} (hn : 144 ≤ ζ.2.2.2.2) (w : RtI l D mX1_has (zz ζ) [aP 10, aI x1] h (fun r1 h1 => (rg r1) ∧ (if ¬ r1 = 0 then (RtV l D mX8_refresh (zz ζ) [aP 40, aP 3] h1 (fun h2 => RtI l D mX1_endingRow (zz ζ) [aP 10, aI x1, aP 40, aP 4] h2 (fun r3 h3 => RtI l D mX1_cyclesOf (zz ζ) [aP 10, aI x1, aI r3, aP 40, aP 4] h3 (fun r4 h4 => Q r4 h4)))) else (Q (-1) h1)))) : RtI l (D + 1) mX11_life (zz ζ) [aP 0, aI x1] h Q := by
  refine RtI.of 0 pn_X11 [aP 0, aI x1] rfl rfl ?_
  refine g_aload_n dX11_life_0 rfl ?_
  refine g_getR dX11_life_1 fl_X11_19 sh_0 (al_0 hn) (fun _ _ _ => rfl) rf_0_1 ?_
  refine g_getR dX11_life_4 fl_X11_188 sh_3 (al_3 hn) (fun _ _ _ => rfl) rf_3_2 ?_
  refine g_iload_n dX11_life_7 rfl ?_
  refine g_callVI (n := 1) (As := [aI x1]) (st := []) dX11_life_8 ml_X11_323 sh_10 rfl (al_10 hn) rfl rfl (Nat.le_of_ble_eq_true rfl) (RtI.mono w (fun r1 h1 w => ?_))
  obtain ⟨o1, w⟩ := w
  refine g_if_ne (tgt := 16) dX11_life_11 rfl o1 ?_
  refine ite_imp (fun w => ?_) (fun w => ?_) w
  · refine g_aload_n dX11_life_16 rfl ?_
    refine g_getR dX11_life_17 fl_X11_44 sh_0 (al_0 hn) (fun _ _ _ => rfl) rf_0_5 ?_
    refine g_aload_n dX11_life_20 rfl ?_
    refine g_getR dX11_life_21 fl_X11_19 sh_0 (al_0 hn) (fun _ _ _ => rfl) rf_0_1 ?_
    refine g_callVV (n := 1) (As := [aP 3]) (st := []) dX11_life_24 ml_X11_171 sh_40 rfl (al_40 hn) rfl rfl (Nat.le_of_ble_eq_true rfl) (RtV.mono w (fun h2 w => ?_))
    refine g_aload_n dX11_life_27 rfl ?_
    refine g_getR dX11_life_28 fl_X11_19 sh_0 (al_0 hn) (fun _ _ _ => rfl) rf_0_1 ?_
    refine g_getR dX11_life_31 fl_X11_188 sh_3 (al_3 hn) (fun _ _ _ => rfl) rf_3_2 ?_
    refine g_iload_n dX11_life_34 rfl ?_
    refine g_aload_n dX11_life_35 rfl ?_
    refine g_getR dX11_life_36 fl_X11_19 sh_0 (al_0 hn) (fun _ _ _ => rfl) rf_0_1 ?_
    refine g_getR dX11_life_39 fl_X11_188 sh_3 (al_3 hn) (fun _ _ _ => rfl) rf_3_2 ?_
    refine g_iload_n dX11_life_42 rfl ?_
    refine g_aload_n dX11_life_43 rfl ?_
    refine g_getR dX11_life_44 fl_X11_44 sh_0 (al_0 hn) (fun _ _ _ => rfl) rf_0_5 ?_
    refine g_aload_n dX11_life_47 rfl ?_
    refine g_getR dX11_life_48 fl_X11_19 sh_0 (al_0 hn) (fun _ _ _ => rfl) rf_0_1 ?_
    refine g_getR dX11_life_51 fl_X11_128 sh_3 (al_3 hn) (fun _ _ _ => rfl) rf_3_0 ?_
    refine g_callVI (n := 3) (As := [aI x1, aP 40, aP 4]) (st := [aI x1, aP 10]) dX11_life_54 ml_X11_344 sh_10 rfl (al_10 hn) rfl rfl (Nat.le_of_ble_eq_true rfl) (RtI.mono w (fun r3 h3 w => ?_))
    refine g_aload_n dX11_life_57 rfl ?_
    refine g_getR dX11_life_58 fl_X11_44 sh_0 (al_0 hn) (fun _ _ _ => rfl) rf_0_5 ?_
    refine g_aload_n dX11_life_61 rfl ?_
    refine g_getR dX11_life_62 fl_X11_19 sh_0 (al_0 hn) (fun _ _ _ => rfl) rf_0_1 ?_
    refine g_getR dX11_life_65 fl_X11_128 sh_3 (al_3 hn) (fun _ _ _ => rfl) rf_3_0 ?_
    refine g_callVI (n := 4) (As := [aI x1, aI r3, aP 40, aP 4]) (st := []) dX11_life_68 ml_X11_329 sh_10 rfl (al_10 hn) rfl rfl (Nat.le_of_ble_eq_true rfl) (RtI.mono w (fun r4 h4 w => ?_))
    exact g_retI dX11_life_71 rfl w
  · refine g_iconst dX11_life_14 ?_
    exact g_retI dX11_life_15 rfl w
theorem e_X11_ends {l : Launch} {D : Nat} {ζ : ZP} {h : HI} {Q : Int → HI → Prop} {x1 : Int} (hn : 144 ≤ ζ.2.2.2.2) (w : RtI l D mX1_has (zz ζ) [aP 10, aI x1] h (fun r1 h1 => (rg r1) ∧ (if ¬ r1 = 0 then (RtV l D mX8_refresh (zz ζ) [aP 40, aP 3] h1 (fun h2 => RtI l D mX1_endingRow (zz ζ) [aP 10, aI x1, aP 40, aP 4] h2 (fun r3 h3 => Q r3 h3))) else (Q (-1) h1)))) : RtI l (D + 1) mX11_ends (zz ζ) [aP 0, aI x1] h Q := by
  refine RtI.of 0 pn_X11 [aP 0, aI x1] rfl rfl ?_
  refine g_aload_n dX11_ends_0 rfl ?_
  refine g_getR dX11_ends_1 fl_X11_19 sh_0 (al_0 hn) (fun _ _ _ => rfl) rf_0_1 ?_
  refine g_getR dX11_ends_4 fl_X11_188 sh_3 (al_3 hn) (fun _ _ _ => rfl) rf_3_2 ?_
  refine g_iload_n dX11_ends_7 rfl ?_
  refine g_callVI (n := 1) (As := [aI x1]) (st := []) dX11_ends_8 ml_X11_323 sh_10 rfl (al_10 hn) rfl rfl (Nat.le_of_ble_eq_true rfl) (RtI.mono w (fun r1 h1 w => ?_))
  obtain ⟨o1, w⟩ := w
  refine g_if_ne (tgt := 16) dX11_ends_11 rfl o1 ?_
  refine ite_imp (fun w => ?_) (fun w => ?_) w
  · refine g_aload_n dX11_ends_16 rfl ?_
    refine g_getR dX11_ends_17 fl_X11_44 sh_0 (al_0 hn) (fun _ _ _ => rfl) rf_0_5 ?_
    refine g_aload_n dX11_ends_20 rfl ?_
    refine g_getR dX11_ends_21 fl_X11_19 sh_0 (al_0 hn) (fun _ _ _ => rfl) rf_0_1 ?_
    refine g_callVV (n := 1) (As := [aP 3]) (st := []) dX11_ends_24 ml_X11_171 sh_40 rfl (al_40 hn) rfl rfl (Nat.le_of_ble_eq_true rfl) (RtV.mono w (fun h2 w => ?_))
    refine g_aload_n dX11_ends_27 rfl ?_
    refine g_getR dX11_ends_28 fl_X11_19 sh_0 (al_0 hn) (fun _ _ _ => rfl) rf_0_1 ?_
    refine g_getR dX11_ends_31 fl_X11_188 sh_3 (al_3 hn) (fun _ _ _ => rfl) rf_3_2 ?_
    refine g_iload_n dX11_ends_34 rfl ?_
    refine g_aload_n dX11_ends_35 rfl ?_
    refine g_getR dX11_ends_36 fl_X11_44 sh_0 (al_0 hn) (fun _ _ _ => rfl) rf_0_5 ?_
    refine g_aload_n dX11_ends_39 rfl ?_
    refine g_getR dX11_ends_40 fl_X11_19 sh_0 (al_0 hn) (fun _ _ _ => rfl) rf_0_1 ?_
    refine g_getR dX11_ends_43 fl_X11_128 sh_3 (al_3 hn) (fun _ _ _ => rfl) rf_3_0 ?_
    refine g_callVI (n := 3) (As := [aI x1, aP 40, aP 4]) (st := []) dX11_ends_46 ml_X11_344 sh_10 rfl (al_10 hn) rfl rfl (Nat.le_of_ble_eq_true rfl) (RtI.mono w (fun r3 h3 w => ?_))
    exact g_retI dX11_ends_49 rfl w
  · refine g_iconst dX11_ends_14 ?_
    exact g_retI dX11_ends_15 rfl w
theorem e_X11_mend {l : Launch} {D : Nat} {ζ : ZP} {h : HI} {Q : Int → HI → Prop} {x1 x2 x3 x4 : Int} (hn : 144 ≤ ζ.2.2.2.2) (w : RtI l D mX1_has (zz ζ) [aP 10, aI x1] h (fun r1 h1 => (rg r1) ∧ (if r1 = 0 then (Q 0 h1) else ((0 ≤ x1 ∧ x1 < 10) ∧ RtI l D mX11_within (zz ζ) [aI x4, aI (h1 16 x1), aI 999] h1 (fun r2 h2 => (rg r2) ∧ (if r2 = 0 then (Q 0 h2) else ((rg (h2 10 7)) ∧ (if (h2 10 7) < 30 then (RtI l D mX5_hasCell (zz ζ) [aP 3, aI x2] h2 (fun r3 h3 => (rg r3) ∧ (if r3 = 0 then (Q 0 h3) else ((0 ≤ x2 ∧ x2 < 60) ∧ (rg (h3 11 x2)) ∧ (rg x1) ∧ (if (h3 11 x2) = x1 then (RtI l D mX5_hasCell (zz ζ) [aP 3, aI x3] h3 (fun r4 h4 => (rg r4) ∧ (if r4 = 0 then (Q 0 h4) else ((0 ≤ x3 ∧ x3 < 60) ∧ (rg (h4 11 x3)) ∧ (if (h4 11 x3) = (-1) then (RtV l D mX8_refresh (zz ζ) [aP 40, aP 3] h4 (fun h5 => RtI l D mX8_has (zz ζ) [aP 40, aI x3] h5 (fun r6 h6 => (rg r6) ∧ (if r6 = 0 then (Q 0 h6) else (RtI l D mX1_exchange (zz ζ) [aP 10, aI x1, aI x2, aI x3, aI x4] h6 (fun r7 h7 => (rg r7) ∧ (if r7 = 0 then (Q 0 h7) else (Q 1 h7)))))))) else (Q 0 h4)))))) else (Q 0 h3)))))) else (Q 0 h2))))))))) : RtI l (D + 1) mX11_mend (zz ζ) [aP 0, aI x1, aI x2, aI x3, aI x4] h Q := by
  refine RtI.of 1 pn_X11 [aP 0, aI x1, aI x2, aI x3, aI x4, aU] rfl rfl ?_
  refine g_aload_n dX11_mend_0 rfl ?_
  refine g_getR dX11_mend_1 fl_X11_19 sh_0 (al_0 hn) (fun _ _ _ => rfl) rf_0_1 ?_
  refine g_getR dX11_mend_4 fl_X11_188 sh_3 (al_3 hn) (fun _ _ _ => rfl) rf_3_2 ?_
  refine g_astore (ls' := [aP 0, aI x1, aI x2, aI x3, aI x4, aP 10]) dX11_mend_7 (Nat.le_of_ble_eq_true rfl) rfl rfl ?_
  refine g_aload dX11_mend_9 rfl ?_
  refine g_iload_n dX11_mend_11 rfl ?_
  refine g_callVI (n := 1) (As := [aI x1]) (st := []) dX11_mend_12 ml_X11_323 sh_10 rfl (al_10 hn) rfl rfl (Nat.le_of_ble_eq_true rfl) (RtI.mono w (fun r1 h1 w => ?_))
  obtain ⟨o1, w⟩ := w
  refine g_if_eq (tgt := 46) dX11_mend_15 rfl o1 ?_
  refine ite_imp (fun w => ?_) (fun w => ?_) w
  · refine g_iconst dX11_mend_46 ?_
    exact g_retZ dX11_mend_47 rfl (Or.inl rfl) w
  · refine g_iload dX11_mend_18 rfl ?_
    refine g_aload dX11_mend_20 rfl ?_
    refine g_getR dX11_mend_22 fl_X11_348 sh_10 (al_10 hn) (fun _ _ _ => rfl) rf_10_6 ?_
    refine g_iload_n dX11_mend_25 rfl ?_
    obtain ⟨o2, w⟩ := w
    refine g_iald dX11_mend_26 sh_16 (al_16 hn) (Nat.le_of_ble_eq_true rfl) o2 ?_
    refine g_sipush dX11_mend_27 rfl ?_
    refine g_callSI (n := 3) (As := [aI x4, aI (h1 16 x1), aI 999]) (st := []) dX11_mend_30 ml_X11_145 rfl rfl (Nat.le_of_ble_eq_true rfl) rfl (RtI.mono w (fun r2 h2 w => ?_))
    obtain ⟨o3, w⟩ := w
    refine g_if_eq (tgt := 46) dX11_mend_33 rfl o3 ?_
    refine ite_imp (fun w => ?_) (fun w => ?_) w
    · refine g_iconst dX11_mend_46 ?_
      exact g_retZ dX11_mend_47 rfl (Or.inl rfl) w
    · refine g_aload dX11_mend_36 rfl ?_
      refine g_getI (J := 7) dX11_mend_38 fl_X11_351 sh_10 (al_10 hn) (fun _ _ _ => rfl) rfl ?_
      refine g_bipush dX11_mend_41 rfl ?_
      obtain ⟨o4, w⟩ := w
      refine g_cmp_lt (tgt := 48) dX11_mend_43 rfl o4 (by decide) ?_
      refine ite_imp (fun w => ?_) (fun w => ?_) w
      · refine g_aload_n dX11_mend_48 rfl ?_
        refine g_getR dX11_mend_49 fl_X11_19 sh_0 (al_0 hn) (fun _ _ _ => rfl) rf_0_1 ?_
        refine g_iload_n dX11_mend_52 rfl ?_
        refine g_callVI (n := 1) (As := [aI x2]) (st := []) dX11_mend_53 ml_X11_139 sh_3 rfl (al_3 hn) rfl rfl (Nat.le_of_ble_eq_true rfl) (RtI.mono w (fun r3 h3 w => ?_))
        obtain ⟨o5, w⟩ := w
        refine g_if_eq (tgt := 70) dX11_mend_56 rfl o5 ?_
        refine ite_imp (fun w => ?_) (fun w => ?_) w
        · refine g_iconst dX11_mend_70 ?_
          exact g_retZ dX11_mend_71 rfl (Or.inl rfl) w
        · refine g_aload dX11_mend_59 rfl ?_
          refine g_getR dX11_mend_61 fl_X11_192 sh_10 (al_10 hn) (fun _ _ _ => rfl) rf_10_1 ?_
          refine g_iload_n dX11_mend_64 rfl ?_
          obtain ⟨o6, w⟩ := w
          refine g_iald dX11_mend_65 sh_11 (al_11 hn) (Nat.le_of_ble_eq_true rfl) o6 ?_
          refine g_iload_n dX11_mend_66 rfl ?_
          obtain ⟨o7, w⟩ := w
          obtain ⟨o8, w⟩ := w
          refine g_cmp_eq (tgt := 72) dX11_mend_67 rfl o7 o8 ?_
          refine ite_imp (fun w => ?_) (fun w => ?_) w
          · refine g_aload_n dX11_mend_72 rfl ?_
            refine g_getR dX11_mend_73 fl_X11_19 sh_0 (al_0 hn) (fun _ _ _ => rfl) rf_0_1 ?_
            refine g_iload_n dX11_mend_76 rfl ?_
            refine g_callVI (n := 1) (As := [aI x3]) (st := []) dX11_mend_77 ml_X11_139 sh_3 rfl (al_3 hn) rfl rfl (Nat.le_of_ble_eq_true rfl) (RtI.mono w (fun r4 h4 w => ?_))
            obtain ⟨o9, w⟩ := w
            refine g_if_eq (tgt := 94) dX11_mend_80 rfl o9 ?_
            refine ite_imp (fun w => ?_) (fun w => ?_) w
            · refine g_iconst dX11_mend_94 ?_
              exact g_retZ dX11_mend_95 rfl (Or.inl rfl) w
            · refine g_aload dX11_mend_83 rfl ?_
              refine g_getR dX11_mend_85 fl_X11_192 sh_10 (al_10 hn) (fun _ _ _ => rfl) rf_10_1 ?_
              refine g_iload_n dX11_mend_88 rfl ?_
              obtain ⟨o10, w⟩ := w
              refine g_iald dX11_mend_89 sh_11 (al_11 hn) (Nat.le_of_ble_eq_true rfl) o10 ?_
              refine g_iconst dX11_mend_90 ?_
              obtain ⟨o11, w⟩ := w
              refine g_cmp_eq (tgt := 96) dX11_mend_91 rfl o11 (by decide) ?_
              refine ite_imp (fun w => ?_) (fun w => ?_) w
              · refine g_aload_n dX11_mend_96 rfl ?_
                refine g_getR dX11_mend_97 fl_X11_44 sh_0 (al_0 hn) (fun _ _ _ => rfl) rf_0_5 ?_
                refine g_aload_n dX11_mend_100 rfl ?_
                refine g_getR dX11_mend_101 fl_X11_19 sh_0 (al_0 hn) (fun _ _ _ => rfl) rf_0_1 ?_
                refine g_callVV (n := 1) (As := [aP 3]) (st := []) dX11_mend_104 ml_X11_171 sh_40 rfl (al_40 hn) rfl rfl (Nat.le_of_ble_eq_true rfl) (RtV.mono w (fun h5 w => ?_))
                refine g_aload_n dX11_mend_107 rfl ?_
                refine g_getR dX11_mend_108 fl_X11_44 sh_0 (al_0 hn) (fun _ _ _ => rfl) rf_0_5 ?_
                refine g_iload_n dX11_mend_111 rfl ?_
                refine g_callVI (n := 1) (As := [aI x3]) (st := []) dX11_mend_112 ml_X11_354 sh_40 rfl (al_40 hn) rfl rfl (Nat.le_of_ble_eq_true rfl) (RtI.mono w (fun r6 h6 w => ?_))
                obtain ⟨o12, w⟩ := w
                refine g_if_eq (tgt := 135) dX11_mend_115 rfl o12 ?_
                refine ite_imp (fun w => ?_) (fun w => ?_) w
                · refine g_iconst dX11_mend_135 ?_
                  exact g_retZ dX11_mend_136 rfl (Or.inl rfl) w
                · refine g_aload dX11_mend_118 rfl ?_
                  refine g_iload_n dX11_mend_120 rfl ?_
                  refine g_iload_n dX11_mend_121 rfl ?_
                  refine g_iload_n dX11_mend_122 rfl ?_
                  refine g_iload dX11_mend_123 rfl ?_
                  refine g_callVI (n := 4) (As := [aI x1, aI x2, aI x3, aI x4]) (st := []) dX11_mend_125 ml_X11_355 sh_10 rfl (al_10 hn) rfl rfl (Nat.le_of_ble_eq_true rfl) (RtI.mono w (fun r7 h7 w => ?_))
                  obtain ⟨o13, w⟩ := w
                  refine g_if_eq (tgt := 135) dX11_mend_128 rfl o13 ?_
                  refine ite_imp (fun w => ?_) (fun w => ?_) w
                  · refine g_iconst dX11_mend_135 ?_
                    exact g_retZ dX11_mend_136 rfl (Or.inl rfl) w
                  · refine g_iconst dX11_mend_131 ?_
                    refine g_goto (tgt := 136) dX11_mend_132 rfl ?_
                    exact g_retZ dX11_mend_136 rfl (Or.inr rfl) w
              · refine g_iconst dX11_mend_94 ?_
                exact g_retZ dX11_mend_95 rfl (Or.inl rfl) w
          · refine g_iconst dX11_mend_70 ?_
            exact g_retZ dX11_mend_71 rfl (Or.inl rfl) w
      · refine g_iconst dX11_mend_46 ?_
        exact g_retZ dX11_mend_47 rfl (Or.inl rfl) w
theorem e_X11_bestMend {l : Launch} {D : Nat} {ζ : ZP} {h : HI} {Q : Int → HI → Prop} {x1 : Int} (hn : 144 ≤ ζ.2.2.2.2) (w : RtI l D mX11_pickCells (zz ζ) [aP 0, aI 1, aI 10, aI 1] h (fun r1 h1 => (rg r1) ∧ (if r1 = (-1) then (Q (-1) h1) else (RtI l D mX1_has (zz ζ) [aP 10, aI x1] h1 (fun r2 h2 => (rg r2) ∧ (if ¬ r2 = 0 then (RtI l D mX1_bestPair (zz ζ) [aP 10, aI x1, aP 51, aI r1, aP 40, aP 4] h2 (fun r3 h3 => Q (h3 10 12) (hu (hu h3 0 10 (bshr r3 8)) 0 11 (band r3 255)))) else (Q (-1) h2))))))) : RtI l (D + 1) mX11_bestMend (zz ζ) [aP 0, aI x1] h Q := by
  refine RtI.of 2 pn_X11 [aP 0, aI x1, aU, aU] rfl rfl ?_
  refine g_aload_n dX11_bestMend_0 rfl ?_
  refine g_iconst dX11_bestMend_1 ?_
  refine g_bipush dX11_bestMend_2 rfl ?_
  refine g_iconst dX11_bestMend_4 ?_
  refine g_callVI (n := 3) (As := [aI 1, aI 10, aI 1]) (st := []) dX11_bestMend_5 ml_X11_245 sh_0 rfl (al_0 hn) rfl rfl (Nat.le_of_ble_eq_true rfl) (RtI.mono w (fun r1 h1 w => ?_))
  refine g_istore_n (ls' := [aP 0, aI x1, aI r1, aU]) dX11_bestMend_8 (Nat.le_of_ble_eq_true rfl) rfl rfl ?_
  refine g_iload_n dX11_bestMend_9 rfl ?_
  refine g_iconst dX11_bestMend_10 ?_
  obtain ⟨o1, w⟩ := w
  refine g_cmp_eq (tgt := 28) dX11_bestMend_11 rfl o1 (by decide) ?_
  refine ite_imp (fun w => ?_) (fun w => ?_) w
  · refine g_iconst dX11_bestMend_28 ?_
    exact g_retI dX11_bestMend_29 rfl w
  · refine g_aload_n dX11_bestMend_14 rfl ?_
    refine g_getR dX11_bestMend_15 fl_X11_19 sh_0 (al_0 hn) (fun _ _ _ => rfl) rf_0_1 ?_
    refine g_getR dX11_bestMend_18 fl_X11_188 sh_3 (al_3 hn) (fun _ _ _ => rfl) rf_3_2 ?_
    refine g_iload_n dX11_bestMend_21 rfl ?_
    refine g_callVI (n := 1) (As := [aI x1]) (st := []) dX11_bestMend_22 ml_X11_323 sh_10 rfl (al_10 hn) rfl rfl (Nat.le_of_ble_eq_true rfl) (RtI.mono w (fun r2 h2 w => ?_))
    obtain ⟨o2, w⟩ := w
    refine g_if_ne (tgt := 30) dX11_bestMend_25 rfl o2 ?_
    refine ite_imp (fun w => ?_) (fun w => ?_) w
    · refine g_aload_n dX11_bestMend_30 rfl ?_
      refine g_getR dX11_bestMend_31 fl_X11_19 sh_0 (al_0 hn) (fun _ _ _ => rfl) rf_0_1 ?_
      refine g_getR dX11_bestMend_34 fl_X11_188 sh_3 (al_3 hn) (fun _ _ _ => rfl) rf_3_2 ?_
      refine g_iload_n dX11_bestMend_37 rfl ?_
      refine g_aload_n dX11_bestMend_38 rfl ?_
      refine g_getR dX11_bestMend_39 fl_X11_48 sh_0 (al_0 hn) (fun _ _ _ => rfl) rf_0_6 ?_
      refine g_iload_n dX11_bestMend_42 rfl ?_
      refine g_aload_n dX11_bestMend_43 rfl ?_
      refine g_getR dX11_bestMend_44 fl_X11_44 sh_0 (al_0 hn) (fun _ _ _ => rfl) rf_0_5 ?_
      refine g_aload_n dX11_bestMend_47 rfl ?_
      refine g_getR dX11_bestMend_48 fl_X11_19 sh_0 (al_0 hn) (fun _ _ _ => rfl) rf_0_1 ?_
      refine g_getR dX11_bestMend_51 fl_X11_128 sh_3 (al_3 hn) (fun _ _ _ => rfl) rf_3_0 ?_
      refine g_callVI (n := 5) (As := [aI x1, aP 51, aI r1, aP 40, aP 4]) (st := []) dX11_bestMend_54 ml_X11_359 sh_10 rfl (al_10 hn) rfl rfl (Nat.le_of_ble_eq_true rfl) (RtI.mono w (fun r3 h3 w => ?_))
      refine g_istore_n (ls' := [aP 0, aI x1, aI r1, aI r3]) dX11_bestMend_57 (Nat.le_of_ble_eq_true rfl) rfl rfl ?_
      refine g_aload_n dX11_bestMend_58 rfl ?_
      refine g_iload_n dX11_bestMend_59 rfl ?_
      refine g_bipush dX11_bestMend_60 rfl ?_
      refine g_ishr dX11_bestMend_62 ?_
      refine g_putI (J := 10) dX11_bestMend_63 fl_X11_73 sh_0 (al_0 hn) rfl rfl ?_
      refine g_aload_n dX11_bestMend_66 rfl ?_
      refine g_iload_n dX11_bestMend_67 rfl ?_
      refine g_sipush dX11_bestMend_68 rfl ?_
      refine g_iand dX11_bestMend_71 ?_
      refine g_putI (J := 11) dX11_bestMend_72 fl_X11_77 sh_0 (al_0 hn) rfl rfl ?_
      refine g_aload_n dX11_bestMend_75 rfl ?_
      refine g_getR dX11_bestMend_76 fl_X11_19 sh_0 (al_0 hn) (fun _ _ _ => rfl) rf_0_1 ?_
      refine g_getR dX11_bestMend_79 fl_X11_188 sh_3 (al_3 hn) (fun _ _ _ => rfl) rf_3_2 ?_
      refine g_getI (J := 12) dX11_bestMend_82 fl_X11_363 sh_10 (al_10 hn) (fun _ _ _ => rfl) rfl ?_
      exact g_retI dX11_bestMend_85 rfl w
    · refine g_iconst dX11_bestMend_28 ?_
      exact g_retI dX11_bestMend_29 rfl w
theorem e_X11_bestBy {l : Launch} {D : Nat} {ζ : ZP} {h : HI} {Q : Int → HI → Prop} {x1 : Int} (hn : 144 ≤ ζ.2.2.2.2) (w : (rg x1) ∧ (if ¬ x1 = 0 then (if ¬ x1 = 1 then (Q (-1) h) else (Q (h 0 11) h)) else (Q (h 0 10) h))) : RtI l (D + 1) mX11_bestBy (zz ζ) [aP 0, aI x1] h Q := by
  refine RtI.of 0 pn_X11 [aP 0, aI x1] rfl rfl ?_
  refine g_iload_n dX11_bestBy_0 rfl ?_
  obtain ⟨o1, w⟩ := w
  refine g_if_ne (tgt := 9) dX11_bestBy_1 rfl o1 ?_
  refine ite_imp (fun w => ?_) (fun w => ?_) w
  · refine g_iload_n dX11_bestBy_9 rfl ?_
    refine g_iconst dX11_bestBy_10 ?_
    refine g_cmp_ne (tgt := 21) dX11_bestBy_11 rfl o1 (by decide) ?_
    refine ite_imp (fun w => ?_) (fun w => ?_) w
    · refine g_iconst dX11_bestBy_21 ?_
      exact g_retI dX11_bestBy_22 rfl w
    · refine g_aload_n dX11_bestBy_14 rfl ?_
      refine g_getI (J := 11) dX11_bestBy_15 fl_X11_77 sh_0 (al_0 hn) (fun _ _ _ => rfl) rfl ?_
      refine g_goto (tgt := 22) dX11_bestBy_18 rfl ?_
      exact g_retI dX11_bestBy_22 rfl w
  · refine g_aload_n dX11_bestBy_4 rfl ?_
    refine g_getI (J := 10) dX11_bestBy_5 fl_X11_73 sh_0 (al_0 hn) (fun _ _ _ => rfl) rfl ?_
    exact g_retI dX11_bestBy_8 rfl w
theorem b_X11_balance_50 {l : Launch} {D : Nat} {ζ : ZP} {h : HI} {Q : Int → HI → Prop} {x1 x2 x3 : Int} (hn : 144 ≤ ζ.2.2.2.2) (w : (rg x3) ∧ (rg x2) ∧ (if x2 ≤ x3 then (RtV l D mX8_refresh (zz ζ) [aP 40, aP 3] h (fun h1 => RtI l D mX11_bleed (zz ζ) [aP 0, aI x1, aI x2] h1 (fun r2 h2 => Q r2 h2))) else (RtI l D mX7_at (zz ζ) [aP 1, aI x3] h (fun r3 h3 => RtI l D mX11_within (zz ζ) [aI r3, aI 0, aI 100] h3 (fun r4 h4 => (rg r4) ∧ (if ¬ r4 = 0 then (G l (D + 1) 0 0 mX11_balance (zz ζ) 50 [aP 0, aI x1, aI x2, aI (x3 + 1)] [] h4 (qI (zz ζ) Q)) else (Q (-1) h4))))))) : G l (D + 1) 0 0 mX11_balance (zz ζ) 50 [aP 0, aI x1, aI x2, aI x3] [] h (qI (zz ζ) Q) := by
  refine g_iload_n dX11_balance_50 rfl ?_
  refine g_iload_n dX11_balance_51 rfl ?_
  obtain ⟨o1, w⟩ := w
  obtain ⟨o2, w⟩ := w
  refine g_cmp_ge (tgt := 80) dX11_balance_52 rfl o1 o2 ?_
  refine ite_imp (fun w => ?_) (fun w => ?_) w
  · refine g_aload_n dX11_balance_80 rfl ?_
    refine g_getR dX11_balance_81 fl_X11_44 sh_0 (al_0 hn) (fun _ _ _ => rfl) rf_0_5 ?_
    refine g_aload_n dX11_balance_84 rfl ?_
    refine g_getR dX11_balance_85 fl_X11_19 sh_0 (al_0 hn) (fun _ _ _ => rfl) rf_0_1 ?_
    refine g_callVV (n := 1) (As := [aP 3]) (st := []) dX11_balance_88 ml_X11_171 sh_40 rfl (al_40 hn) rfl rfl (Nat.le_of_ble_eq_true rfl) (RtV.mono w (fun h1 w => ?_))
    refine g_aload_n dX11_balance_91 rfl ?_
    refine g_iload_n dX11_balance_92 rfl ?_
    refine g_iload_n dX11_balance_93 rfl ?_
    refine g_callVI (n := 2) (As := [aI x1, aI x2]) (st := []) dX11_balance_94 ml_X11_366 sh_0 rfl (al_0 hn) rfl rfl (Nat.le_of_ble_eq_true rfl) (RtI.mono w (fun r2 h2 w => ?_))
    exact g_retI dX11_balance_97 rfl w
  · refine g_aload_n dX11_balance_55 rfl ?_
    refine g_getR dX11_balance_56 fl_X11_10 sh_0 (al_0 hn) (fun _ _ _ => rfl) rf_0_0 ?_
    refine g_iload_n dX11_balance_59 rfl ?_
    refine g_callVI (n := 1) (As := [aI x3]) (st := []) dX11_balance_60 ml_X11_305 sh_1 rfl (al_1 hn) rfl rfl (Nat.le_of_ble_eq_true rfl) (RtI.mono w (fun r3 h3 w => ?_))
    refine g_iconst dX11_balance_63 ?_
    refine g_bipush dX11_balance_64 rfl ?_
    refine g_callSI (n := 3) (As := [aI r3, aI 0, aI 100]) (st := []) dX11_balance_66 ml_X11_145 rfl rfl (Nat.le_of_ble_eq_true rfl) rfl (RtI.mono w (fun r4 h4 w => ?_))
    obtain ⟨o3, w⟩ := w
    refine g_if_ne (tgt := 74) dX11_balance_69 rfl o3 ?_
    refine ite_imp (fun w => ?_) (fun w => ?_) w
    · refine g_iinc (ls' := [aP 0, aI x1, aI x2, aI (x3 + 1)]) dX11_balance_74 rfl (Nat.le_of_ble_eq_true rfl) rfl rfl ?_
      refine g_goto (tgt := 50) dX11_balance_77 rfl ?_
      exact g_sub (ls' := [aP 0, aI x1, aI x2, aI (x3 + 1)]) ⟨Or.inr rfl, Or.inr rfl, Or.inr rfl, Or.inr rfl, trivial⟩ w
    · refine g_iconst dX11_balance_72 ?_
      exact g_retI dX11_balance_73 rfl w
theorem e_X11_balance {l : Launch} {D : Nat} {ζ : ZP} {h : HI} {Q : Int → HI → Prop} {x1 : Int} (hn : 144 ≤ ζ.2.2.2.2) (w : RtI l D mX1_has (zz ζ) [aP 10, aI x1] (hu h 1 1 0) (fun r1 h1 => (rg r1) ∧ (if r1 = 0 then (Q (-1) h1) else ((0 ≤ x1 ∧ x1 < 10) ∧ (rg (h 1 1)) ∧ (rg (h1 14 x1)) ∧ (if (h 1 1) = (h1 14 x1) then (G l (D + 1) 0 0 mX11_balance (zz ζ) 50 [aP 0, aI x1, aI (h 1 1), aI 0] [] h1 (qI (zz ζ) Q)) else (Q (-1) h1)))))) : RtI l (D + 1) mX11_balance (zz ζ) [aP 0, aI x1] h Q := by
  refine RtI.of 2 pn_X11 [aP 0, aI x1, aU, aU] rfl rfl ?_
  refine g_aload_n dX11_balance_0 rfl ?_
  refine g_getR dX11_balance_1 fl_X11_10 sh_0 (al_0 hn) (fun _ _ _ => rfl) rf_0_0 ?_
  refine g_getI (J := 1) dX11_balance_4 fl_X11_100 sh_1 (al_1 hn) (fun _ _ _ => rfl) rfl ?_
  refine g_istore_n (ls' := [aP 0, aI x1, aI (h 1 1), aU]) dX11_balance_7 (Nat.le_of_ble_eq_true rfl) rfl rfl ?_
  refine g_aload_n dX11_balance_8 rfl ?_
  refine g_getR dX11_balance_9 fl_X11_10 sh_0 (al_0 hn) (fun _ _ _ => rfl) rf_0_0 ?_
  refine g_iconst dX11_balance_12 ?_
  refine g_putI (J := 1) dX11_balance_13 fl_X11_100 sh_1 (al_1 hn) rfl rfl ?_
  refine g_aload_n dX11_balance_16 rfl ?_
  refine g_getR dX11_balance_17 fl_X11_19 sh_0 (al_0 hn) (fun _ _ _ => rfl) rf_0_1 ?_
  refine g_getR dX11_balance_20 fl_X11_188 sh_3 (al_3 hn) (fun _ _ _ => rfl) rf_3_2 ?_
  refine g_iload_n dX11_balance_23 rfl ?_
  refine g_callVI (n := 1) (As := [aI x1]) (st := []) dX11_balance_24 ml_X11_323 sh_10 rfl (al_10 hn) rfl rfl (Nat.le_of_ble_eq_true rfl) (RtI.mono w (fun r1 h1 w => ?_))
  obtain ⟨o1, w⟩ := w
  refine g_if_eq (tgt := 46) dX11_balance_27 rfl o1 ?_
  refine ite_imp (fun w => ?_) (fun w => ?_) w
  · refine g_iconst dX11_balance_46 ?_
    exact g_retI dX11_balance_47 rfl w
  · refine g_iload_n dX11_balance_30 rfl ?_
    refine g_aload_n dX11_balance_31 rfl ?_
    refine g_getR dX11_balance_32 fl_X11_19 sh_0 (al_0 hn) (fun _ _ _ => rfl) rf_0_1 ?_
    refine g_getR dX11_balance_35 fl_X11_188 sh_3 (al_3 hn) (fun _ _ _ => rfl) rf_3_2 ?_
    refine g_getR dX11_balance_38 fl_X11_326 sh_10 (al_10 hn) (fun _ _ _ => rfl) rf_10_4 ?_
    refine g_iload_n dX11_balance_41 rfl ?_
    obtain ⟨o2, w⟩ := w
    refine g_iald dX11_balance_42 sh_14 (al_14 hn) (Nat.le_of_ble_eq_true rfl) o2 ?_
    obtain ⟨o3, w⟩ := w
    obtain ⟨o4, w⟩ := w
    refine g_cmp_eq (tgt := 48) dX11_balance_43 rfl o3 o4 ?_
    refine ite_imp (fun w => ?_) (fun w => ?_) w
    · refine g_iconst dX11_balance_48 ?_
      refine g_istore_n (ls' := [aP 0, aI x1, aI (h 1 1), aI 0]) dX11_balance_49 (Nat.le_of_ble_eq_true rfl) rfl rfl ?_
      exact g_sub (ls' := [aP 0, aI x1, aI (h 1 1), aI 0]) ⟨Or.inr rfl, Or.inr rfl, Or.inr rfl, Or.inr rfl, trivial⟩ w
    · refine g_iconst dX11_balance_46 ?_
      exact g_retI dX11_balance_47 rfl w
theorem e_X11_lost {l : Launch} {D : Nat} {ζ : ZP} {h : HI} {Q : Int → HI → Prop} (hn : 144 ≤ ζ.2.2.2.2) (w : Q (h 0 12) h) : RtI l (D + 1) mX11_lost (zz ζ) [aP 0] h Q := by
  refine RtI.of 0 pn_X11 [aP 0] rfl rfl ?_
  refine g_aload_n dX11_lost_0 rfl ?_
  refine g_getI (J := 12) dX11_lost_1 fl_X11_80 sh_0 (al_0 hn) (fun _ _ _ => rfl) rfl ?_
  exact g_retI dX11_lost_4 rfl w
theorem e_X11_shorted {l : Launch} {D : Nat} {ζ : ZP} {h : HI} {Q : Int → HI → Prop} {x1 : Int} (hn : 144 ≤ ζ.2.2.2.2) (w : RtI l D mX5_hasCell (zz ζ) [aP 3, aI x1] h (fun r1 h1 => (rg r1) ∧ (if r1 = 0 then (Q (-1) h1) else ((0 ≤ x1 ∧ x1 < 60) ∧ (rg (h1 11 x1)) ∧ (if ¬ (h1 11 x1) = (-1) then (RtV l D mX8_refresh (zz ζ) [aP 40, aP 3] h1 (fun h2 => RtI l D mX1_shortOf (zz ζ) [aP 10, aI x1, aP 40, aI (h2 7 4)] h2 (fun r3 h3 => Q r3 h3))) else (Q (-1) h1)))))) : RtI l (D + 1) mX11_shorted (zz ζ) [aP 0, aI x1] h Q := by
  refine RtI.of 0 pn_X11 [aP 0, aI x1] rfl rfl ?_
  refine g_aload_n dX11_shorted_0 rfl ?_
  refine g_getR dX11_shorted_1 fl_X11_19 sh_0 (al_0 hn) (fun _ _ _ => rfl) rf_0_1 ?_
  refine g_iload_n dX11_shorted_4 rfl ?_
  refine g_callVI (n := 1) (As := [aI x1]) (st := []) dX11_shorted_5 ml_X11_139 sh_3 rfl (al_3 hn) rfl rfl (Nat.le_of_ble_eq_true rfl) (RtI.mono w (fun r1 h1 w => ?_))
  obtain ⟨o1, w⟩ := w
  refine g_if_eq (tgt := 27) dX11_shorted_8 rfl o1 ?_
  refine ite_imp (fun w => ?_) (fun w => ?_) w
  · refine g_iconst dX11_shorted_27 ?_
    exact g_retI dX11_shorted_28 rfl w
  · refine g_aload_n dX11_shorted_11 rfl ?_
    refine g_getR dX11_shorted_12 fl_X11_19 sh_0 (al_0 hn) (fun _ _ _ => rfl) rf_0_1 ?_
    refine g_getR dX11_shorted_15 fl_X11_188 sh_3 (al_3 hn) (fun _ _ _ => rfl) rf_3_2 ?_
    refine g_getR dX11_shorted_18 fl_X11_192 sh_10 (al_10 hn) (fun _ _ _ => rfl) rf_10_1 ?_
    refine g_iload_n dX11_shorted_21 rfl ?_
    obtain ⟨o2, w⟩ := w
    refine g_iald dX11_shorted_22 sh_11 (al_11 hn) (Nat.le_of_ble_eq_true rfl) o2 ?_
    refine g_iconst dX11_shorted_23 ?_
    obtain ⟨o3, w⟩ := w
    refine g_cmp_ne (tgt := 29) dX11_shorted_24 rfl o3 (by decide) ?_
    refine ite_imp (fun w => ?_) (fun w => ?_) w
    · refine g_aload_n dX11_shorted_29 rfl ?_
      refine g_getR dX11_shorted_30 fl_X11_44 sh_0 (al_0 hn) (fun _ _ _ => rfl) rf_0_5 ?_
      refine g_aload_n dX11_shorted_33 rfl ?_
      refine g_getR dX11_shorted_34 fl_X11_19 sh_0 (al_0 hn) (fun _ _ _ => rfl) rf_0_1 ?_
      refine g_callVV (n := 1) (As := [aP 3]) (st := []) dX11_shorted_37 ml_X11_171 sh_40 rfl (al_40 hn) rfl rfl (Nat.le_of_ble_eq_true rfl) (RtV.mono w (fun h2 w => ?_))
      refine g_aload_n dX11_shorted_40 rfl ?_
      refine g_getR dX11_shorted_41 fl_X11_19 sh_0 (al_0 hn) (fun _ _ _ => rfl) rf_0_1 ?_
      refine g_getR dX11_shorted_44 fl_X11_188 sh_3 (al_3 hn) (fun _ _ _ => rfl) rf_3_2 ?_
      refine g_iload_n dX11_shorted_47 rfl ?_
      refine g_aload_n dX11_shorted_48 rfl ?_
      refine g_getR dX11_shorted_49 fl_X11_44 sh_0 (al_0 hn) (fun _ _ _ => rfl) rf_0_5 ?_
      refine g_aload_n dX11_shorted_52 rfl ?_
      refine g_getR dX11_shorted_53 fl_X11_19 sh_0 (al_0 hn) (fun _ _ _ => rfl) rf_0_1 ?_
      refine g_getR dX11_shorted_56 fl_X11_128 sh_3 (al_3 hn) (fun _ _ _ => rfl) rf_3_0 ?_
      refine g_getR dX11_shorted_59 fl_X11_225 sh_4 (al_4 hn) (fun _ _ _ => rfl) rf_4_2 ?_
      refine g_iconst dX11_shorted_62 ?_
      refine g_iald dX11_shorted_63 sh_7 (al_7 hn) (Nat.le_of_ble_eq_true rfl) (by decide) ?_
      refine g_callVI (n := 3) (As := [aI x1, aP 40, aI (h2 7 4)]) (st := []) dX11_shorted_64 ml_X11_369 sh_10 rfl (al_10 hn) rfl rfl (Nat.le_of_ble_eq_true rfl) (RtI.mono w (fun r3 h3 w => ?_))
      exact g_retI dX11_shorted_67 rfl w
    · refine g_iconst dX11_shorted_27 ?_
      exact g_retI dX11_shorted_28 rfl w
theorem b_X11_held_32 {l : Launch} {D : Nat} {ζ : ZP} {h : HI} {Q : Int → HI → Prop} {x1 x2 x3 x4 : Int} (hn : 144 ≤ ζ.2.2.2.2) (w : (rg x4) ∧ (rg (h 10 0)) ∧ (if (h 10 0) ≤ x4 then (Q x3 h) else ((rg x2) ∧ (if ¬ x2 = (-1) then (RtI l D mX1_hadOn (zz ζ) [aP 10, aI x4, aI x1, aI x2, aP 22] h (fun r1 h1 => (rg r1) ∧ (if r1 = 0 then (G l (D + 1) 0 0 mX11_held (zz ζ) 32 [aP 0, aI x1, aI x2, aI (bor x3 0), aI (x4 + 1), aU] [] h1 (qI (zz ζ) Q)) else (G l (D + 1) 0 0 mX11_held (zz ζ) 32 [aP 0, aI x1, aI x2, aI (bor x3 (bshl 1 x4)), aI (x4 + 1), aU] [] h1 (qI (zz ζ) Q))))) else (RtI l D mX1_everHad (zz ζ) [aP 10, aI x4, aI x1, aP 22] h (fun r2 h2 => (rg r2) ∧ (if r2 = 0 then (G l (D + 1) 0 0 mX11_held (zz ζ) 32 [aP 0, aI x1, aI x2, aI (bor x3 0), aI (x4 + 1), aU] [] h2 (qI (zz ζ) Q)) else (G l (D + 1) 0 0 mX11_held (zz ζ) 32 [aP 0, aI x1, aI x2, aI (bor x3 (bshl 1 x4)), aI (x4 + 1), aU] [] h2 (qI (zz ζ) Q))))))))) : G l (D + 1) 0 0 mX11_held (zz ζ) 32 [aP 0, aI x1, aI x2, aI x3, aI x4, aU] [] h (qI (zz ζ) Q) := by
  refine g_iload dX11_held_32 rfl ?_
  refine g_aload_n dX11_held_34 rfl ?_
  refine g_getR dX11_held_35 fl_X11_19 sh_0 (al_0 hn) (fun _ _ _ => rfl) rf_0_1 ?_
  refine g_getR dX11_held_38 fl_X11_188 sh_3 (al_3 hn) (fun _ _ _ => rfl) rf_3_2 ?_
  refine g_getI (J := 0) dX11_held_41 fl_X11_318 sh_10 (al_10 hn) (fun _ _ _ => rfl) rfl ?_
  obtain ⟨o1, w⟩ := w
  obtain ⟨o2, w⟩ := w
  refine g_cmp_ge (tgt := 120) dX11_held_44 rfl o1 o2 ?_
  refine ite_imp (fun w => ?_) (fun w => ?_) w
  · refine g_iload_n dX11_held_120 rfl ?_
    exact g_retI dX11_held_121 rfl w
  · refine g_iload_n dX11_held_47 rfl ?_
    refine g_iconst dX11_held_48 ?_
    obtain ⟨o3, w⟩ := w
    refine g_cmp_ne (tgt := 75) dX11_held_49 rfl o3 (by decide) ?_
    refine ite_imp (fun w => ?_) (fun w => ?_) w
    · refine g_aload_n dX11_held_75 rfl ?_
      refine g_getR dX11_held_76 fl_X11_19 sh_0 (al_0 hn) (fun _ _ _ => rfl) rf_0_1 ?_
      refine g_getR dX11_held_79 fl_X11_188 sh_3 (al_3 hn) (fun _ _ _ => rfl) rf_3_2 ?_
      refine g_iload dX11_held_82 rfl ?_
      refine g_iload_n dX11_held_84 rfl ?_
      refine g_iload_n dX11_held_85 rfl ?_
      refine g_aload_n dX11_held_86 rfl ?_
      refine g_getR dX11_held_87 fl_X11_19 sh_0 (al_0 hn) (fun _ _ _ => rfl) rf_0_1 ?_
      refine g_getR dX11_held_90 fl_X11_185 sh_3 (al_3 hn) (fun _ _ _ => rfl) rf_3_4 ?_
      refine g_callVI (n := 4) (As := [aI x4, aI x1, aI x2, aP 22]) (st := []) dX11_held_93 ml_X11_377 sh_10 rfl (al_10 hn) rfl rfl (Nat.le_of_ble_eq_true rfl) (RtI.mono w (fun r1 h1 w => ?_))
      refine g_istore (ls' := [aP 0, aI x1, aI x2, aI x3, aI x4, aI r1]) dX11_held_96 (Nat.le_of_ble_eq_true rfl) rfl rfl ?_
      refine g_iload_n dX11_held_98 rfl ?_
      refine g_iload dX11_held_99 rfl ?_
      obtain ⟨o4, w⟩ := w
      refine g_if_eq (tgt := 111) dX11_held_101 rfl o4 ?_
      refine ite_imp (fun w => ?_) (fun w => ?_) w
      · refine g_iconst dX11_held_111 ?_
        refine g_ior dX11_held_112 ?_
        refine g_istore_n (ls' := [aP 0, aI x1, aI x2, aI (bor x3 0), aI x4, aI r1]) dX11_held_113 (Nat.le_of_ble_eq_true rfl) rfl rfl ?_
        refine g_iinc (ls' := [aP 0, aI x1, aI x2, aI (bor x3 0), aI (x4 + 1), aI r1]) dX11_held_114 rfl (Nat.le_of_ble_eq_true rfl) rfl rfl ?_
        refine g_goto (tgt := 32) dX11_held_117 rfl ?_
        exact g_sub (ls' := [aP 0, aI x1, aI x2, aI (bor x3 0), aI (x4 + 1), aU]) ⟨Or.inr rfl, Or.inr rfl, Or.inr rfl, Or.inr rfl, Or.inr rfl, Or.inl rfl, trivial⟩ w
      · refine g_iconst dX11_held_104 ?_
        refine g_iload dX11_held_105 rfl ?_
        refine g_ishl dX11_held_107 ?_
        refine g_goto (tgt := 112) dX11_held_108 rfl ?_
        refine g_ior dX11_held_112 ?_
        refine g_istore_n (ls' := [aP 0, aI x1, aI x2, aI (bor x3 (bshl 1 x4)), aI x4, aI r1]) dX11_held_113 (Nat.le_of_ble_eq_true rfl) rfl rfl ?_
        refine g_iinc (ls' := [aP 0, aI x1, aI x2, aI (bor x3 (bshl 1 x4)), aI (x4 + 1), aI r1]) dX11_held_114 rfl (Nat.le_of_ble_eq_true rfl) rfl rfl ?_
        refine g_goto (tgt := 32) dX11_held_117 rfl ?_
        exact g_sub (ls' := [aP 0, aI x1, aI x2, aI (bor x3 (bshl 1 x4)), aI (x4 + 1), aU]) ⟨Or.inr rfl, Or.inr rfl, Or.inr rfl, Or.inr rfl, Or.inr rfl, Or.inl rfl, trivial⟩ w
    · refine g_aload_n dX11_held_52 rfl ?_
      refine g_getR dX11_held_53 fl_X11_19 sh_0 (al_0 hn) (fun _ _ _ => rfl) rf_0_1 ?_
      refine g_getR dX11_held_56 fl_X11_188 sh_3 (al_3 hn) (fun _ _ _ => rfl) rf_3_2 ?_
      refine g_iload dX11_held_59 rfl ?_
      refine g_iload_n dX11_held_61 rfl ?_
      refine g_aload_n dX11_held_62 rfl ?_
      refine g_getR dX11_held_63 fl_X11_19 sh_0 (al_0 hn) (fun _ _ _ => rfl) rf_0_1 ?_
      refine g_getR dX11_held_66 fl_X11_185 sh_3 (al_3 hn) (fun _ _ _ => rfl) rf_3_4 ?_
      refine g_callVI (n := 3) (As := [aI x4, aI x1, aP 22]) (st := []) dX11_held_69 ml_X11_373 sh_10 rfl (al_10 hn) rfl rfl (Nat.le_of_ble_eq_true rfl) (RtI.mono w (fun r2 h2 w => ?_))
      refine g_goto (tgt := 96) dX11_held_72 rfl ?_
      refine g_istore (ls' := [aP 0, aI x1, aI x2, aI x3, aI x4, aI r2]) dX11_held_96 (Nat.le_of_ble_eq_true rfl) rfl rfl ?_
      refine g_iload_n dX11_held_98 rfl ?_
      refine g_iload dX11_held_99 rfl ?_
      obtain ⟨o5, w⟩ := w
      refine g_if_eq (tgt := 111) dX11_held_101 rfl o5 ?_
      refine ite_imp (fun w => ?_) (fun w => ?_) w
      · refine g_iconst dX11_held_111 ?_
        refine g_ior dX11_held_112 ?_
        refine g_istore_n (ls' := [aP 0, aI x1, aI x2, aI (bor x3 0), aI x4, aI r2]) dX11_held_113 (Nat.le_of_ble_eq_true rfl) rfl rfl ?_
        refine g_iinc (ls' := [aP 0, aI x1, aI x2, aI (bor x3 0), aI (x4 + 1), aI r2]) dX11_held_114 rfl (Nat.le_of_ble_eq_true rfl) rfl rfl ?_
        refine g_goto (tgt := 32) dX11_held_117 rfl ?_
        exact g_sub (ls' := [aP 0, aI x1, aI x2, aI (bor x3 0), aI (x4 + 1), aU]) ⟨Or.inr rfl, Or.inr rfl, Or.inr rfl, Or.inr rfl, Or.inr rfl, Or.inl rfl, trivial⟩ w
      · refine g_iconst dX11_held_104 ?_
        refine g_iload dX11_held_105 rfl ?_
        refine g_ishl dX11_held_107 ?_
        refine g_goto (tgt := 112) dX11_held_108 rfl ?_
        refine g_ior dX11_held_112 ?_
        refine g_istore_n (ls' := [aP 0, aI x1, aI x2, aI (bor x3 (bshl 1 x4)), aI x4, aI r2]) dX11_held_113 (Nat.le_of_ble_eq_true rfl) rfl rfl ?_
        refine g_iinc (ls' := [aP 0, aI x1, aI x2, aI (bor x3 (bshl 1 x4)), aI (x4 + 1), aI r2]) dX11_held_114 rfl (Nat.le_of_ble_eq_true rfl) rfl rfl ?_
        refine g_goto (tgt := 32) dX11_held_117 rfl ?_
        exact g_sub (ls' := [aP 0, aI x1, aI x2, aI (bor x3 (bshl 1 x4)), aI (x4 + 1), aU]) ⟨Or.inr rfl, Or.inr rfl, Or.inr rfl, Or.inr rfl, Or.inr rfl, Or.inl rfl, trivial⟩ w
theorem e_X11_held {l : Launch} {D : Nat} {ζ : ZP} {h : HI} {Q : Int → HI → Prop} {x1 x2 : Int} (hn : 144 ≤ ζ.2.2.2.2) (w : RtI l D mX0_hasBox (zz ζ) [aP 4, aI x1] h (fun r1 h1 => (rg r1) ∧ (if r1 = 0 then (Q (-1) h1) else (RtI l D mX11_within (zz ζ) [aI x2, aI (-1), aI 999] h1 (fun r2 h2 => (rg r2) ∧ (if ¬ r2 = 0 then (G l (D + 1) 0 0 mX11_held (zz ζ) 32 [aP 0, aI x1, aI x2, aI 0, aI 0, aU] [] h2 (qI (zz ζ) Q)) else (Q (-1) h2))))))) : RtI l (D + 1) mX11_held (zz ζ) [aP 0, aI x1, aI x2] h Q := by
  refine RtI.of 3 pn_X11 [aP 0, aI x1, aI x2, aU, aU, aU] rfl rfl ?_
  refine g_aload_n dX11_held_0 rfl ?_
  refine g_getR dX11_held_1 fl_X11_19 sh_0 (al_0 hn) (fun _ _ _ => rfl) rf_0_1 ?_
  refine g_getR dX11_held_4 fl_X11_128 sh_3 (al_3 hn) (fun _ _ _ => rfl) rf_3_0 ?_
  refine g_iload_n dX11_held_7 rfl ?_
  refine g_callVI (n := 1) (As := [aI x1]) (st := []) dX11_held_8 ml_X11_131 sh_4 rfl (al_4 hn) rfl rfl (Nat.le_of_ble_eq_true rfl) (RtI.mono w (fun r1 h1 w => ?_))
  obtain ⟨o1, w⟩ := w
  refine g_if_eq (tgt := 25) dX11_held_11 rfl o1 ?_
  refine ite_imp (fun w => ?_) (fun w => ?_) w
  · refine g_iconst dX11_held_25 ?_
    exact g_retI dX11_held_26 rfl w
  · refine g_iload_n dX11_held_14 rfl ?_
    refine g_iconst dX11_held_15 ?_
    refine g_sipush dX11_held_16 rfl ?_
    refine g_callSI (n := 3) (As := [aI x2, aI (-1), aI 999]) (st := []) dX11_held_19 ml_X11_145 rfl rfl (Nat.le_of_ble_eq_true rfl) rfl (RtI.mono w (fun r2 h2 w => ?_))
    obtain ⟨o2, w⟩ := w
    refine g_if_ne (tgt := 27) dX11_held_22 rfl o2 ?_
    refine ite_imp (fun w => ?_) (fun w => ?_) w
    · refine g_iconst dX11_held_27 ?_
      refine g_istore_n (ls' := [aP 0, aI x1, aI x2, aI 0, aU, aU]) dX11_held_28 (Nat.le_of_ble_eq_true rfl) rfl rfl ?_
      refine g_iconst dX11_held_29 ?_
      refine g_istore (ls' := [aP 0, aI x1, aI x2, aI 0, aI 0, aU]) dX11_held_30 (Nat.le_of_ble_eq_true rfl) rfl rfl ?_
      exact g_sub (ls' := [aP 0, aI x1, aI x2, aI 0, aI 0, aU]) ⟨Or.inr rfl, Or.inr rfl, Or.inr rfl, Or.inr rfl, Or.inr rfl, Or.inl rfl, trivial⟩ w
    · refine g_iconst dX11_held_25 ?_
      exact g_retI dX11_held_26 rfl w
-- X11_welds: not walked (put of a reference)
theorem e_X11_order {l : Launch} {D : Nat} {ζ : ZP} {h : HI} {Q : Int → HI → Prop} (hn : 144 ≤ ζ.2.2.2.2) (hs1 : isW ζ.1) (w : RtI l D mX9_findOrder (zz ζ) [aP 91, aP ζ.1] h (fun r1 h1 => (rg r1) ∧ (if r1 = 0 then (Q (-1) h1) else (Q (h1 ζ.1 0) h1)))) : RtI l (D + 1) mX11_order (zz ζ) [aP 0] h Q := by
  refine RtI.of 0 pn_X11 [aP 0] rfl rfl ?_
  refine g_aload_n dX11_order_0 rfl ?_
  refine g_getR dX11_order_1 fl_X11_96 sh_0 (al_0 hn) (fun _ _ _ => rfl) rf_0_15 ?_
  refine g_aload_n dX11_order_4 rfl ?_
  refine g_getR dX11_order_5 fl_X11_86 sh_0 (al_0 hn) (fun _ _ _ => rfl) rf_0_13 ?_
  refine g_callVI (n := 1) (As := [aP ζ.1]) (st := []) dX11_order_8 ml_X11_383 sh_91 rfl (al_91 hn) rfl rfl (Nat.le_of_ble_eq_true rfl) (RtI.mono w (fun r1 h1 w => ?_))
  obtain ⟨o1, w⟩ := w
  refine g_if_eq (tgt := 24) dX11_order_11 rfl o1 ?_
  refine ite_imp (fun w => ?_) (fun w => ?_) w
  · refine g_iconst dX11_order_24 ?_
    exact g_retI dX11_order_25 rfl w
  · refine g_aload_n dX11_order_14 rfl ?_
    refine g_getR dX11_order_15 fl_X11_86 sh_0 (al_0 hn) (fun _ _ _ => rfl) rf_0_13 ?_
    refine g_getI (J := 0) dX11_order_18 fl_X11_382 (shw_0 hs1) (alw_0 hs1 hn) (fun _ _ _ => rfl) rfl ?_
    refine g_goto (tgt := 25) dX11_order_21 rfl ?_
    exact g_retI dX11_order_25 rfl w
theorem e_X11_orderAt {l : Launch} {D : Nat} {ζ : ZP} {h : HI} {Q : Int → HI → Prop} {x1 : Int} (hn : 144 ≤ ζ.2.2.2.2) (w : RtI l D mX11_within (zz ζ) [aI x1, aI 0, aI ((h 91 0) - 1)] h (fun r1 h1 => (rg r1) ∧ (if r1 = 0 then (Q (-1) h1) else ((0 ≤ x1 ∧ x1 < 12) ∧ Q (h1 92 x1) h1)))) : RtI l (D + 1) mX11_orderAt (zz ζ) [aP 0, aI x1] h Q := by
  refine RtI.of 0 pn_X11 [aP 0, aI x1] rfl rfl ?_
  refine g_iload_n dX11_orderAt_0 rfl ?_
  refine g_iconst dX11_orderAt_1 ?_
  refine g_aload_n dX11_orderAt_2 rfl ?_
  refine g_getR dX11_orderAt_3 fl_X11_96 sh_0 (al_0 hn) (fun _ _ _ => rfl) rf_0_15 ?_
  refine g_getI (J := 0) dX11_orderAt_6 fl_X11_387 sh_91 (al_91 hn) (fun _ _ _ => rfl) rfl ?_
  refine g_iconst dX11_orderAt_9 ?_
  refine g_isub dX11_orderAt_10 ?_
  refine g_callSI (n := 3) (As := [aI x1, aI 0, aI ((h 91 0) - 1)]) (st := []) dX11_orderAt_11 ml_X11_145 rfl rfl (Nat.le_of_ble_eq_true rfl) rfl (RtI.mono w (fun r1 h1 w => ?_))
  obtain ⟨o1, w⟩ := w
  refine g_if_eq (tgt := 29) dX11_orderAt_14 rfl o1 ?_
  refine ite_imp (fun w => ?_) (fun w => ?_) w
  · refine g_iconst dX11_orderAt_29 ?_
    exact g_retI dX11_orderAt_30 rfl w
  · refine g_aload_n dX11_orderAt_17 rfl ?_
    refine g_getR dX11_orderAt_18 fl_X11_96 sh_0 (al_0 hn) (fun _ _ _ => rfl) rf_0_15 ?_
    refine g_getR dX11_orderAt_21 fl_X11_388 sh_91 (al_91 hn) (fun _ _ _ => rfl) rf_91_1 ?_
    refine g_iload_n dX11_orderAt_24 rfl ?_
    obtain ⟨o2, w⟩ := w
    refine g_iald dX11_orderAt_25 sh_92 (al_92 hn) (Nat.le_of_ble_eq_true rfl) o2 ?_
    refine g_goto (tgt := 30) dX11_orderAt_26 rfl ?_
    exact g_retI dX11_orderAt_30 rfl w
theorem e_X11_check {l : Launch} {D : Nat} {ζ : ZP} {h : HI} {Q : Int → HI → Prop} (hn : 144 ≤ ζ.2.2.2.2) (hs1 : isW ζ.1) (w : RtI l D mX9_goodSteps (zz ζ) [aP 91, aP ζ.1, aP 1, aI (h 1 1)] (hu h 1 1 0) (fun r1 h1 => (rg r1) ∧ (rg (h 1 1)) ∧ (if ¬ r1 = (h 1 1) then (Q r1 h1) else ((rg (h1 ζ.1 0)) ∧ (if ¬ r1 = (h1 ζ.1 0) then (Q r1 h1) else (Q (-1) h1)))))) : RtI l (D + 1) mX11_check (zz ζ) [aP 0] h Q := by
  refine RtI.of 2 pn_X11 [aP 0, aU, aU] rfl rfl ?_
  refine g_aload_n dX11_check_0 rfl ?_
  refine g_getR dX11_check_1 fl_X11_10 sh_0 (al_0 hn) (fun _ _ _ => rfl) rf_0_0 ?_
  refine g_getI (J := 1) dX11_check_4 fl_X11_100 sh_1 (al_1 hn) (fun _ _ _ => rfl) rfl ?_
  refine g_istore_n (ls' := [aP 0, aI (h 1 1), aU]) dX11_check_7 (Nat.le_of_ble_eq_true rfl) rfl rfl ?_
  refine g_aload_n dX11_check_8 rfl ?_
  refine g_getR dX11_check_9 fl_X11_10 sh_0 (al_0 hn) (fun _ _ _ => rfl) rf_0_0 ?_
  refine g_iconst dX11_check_12 ?_
  refine g_putI (J := 1) dX11_check_13 fl_X11_100 sh_1 (al_1 hn) rfl rfl ?_
  refine g_aload_n dX11_check_16 rfl ?_
  refine g_getR dX11_check_17 fl_X11_96 sh_0 (al_0 hn) (fun _ _ _ => rfl) rf_0_15 ?_
  refine g_aload_n dX11_check_20 rfl ?_
  refine g_getR dX11_check_21 fl_X11_86 sh_0 (al_0 hn) (fun _ _ _ => rfl) rf_0_13 ?_
  refine g_aload_n dX11_check_24 rfl ?_
  refine g_getR dX11_check_25 fl_X11_10 sh_0 (al_0 hn) (fun _ _ _ => rfl) rf_0_0 ?_
  refine g_iload_n dX11_check_28 rfl ?_
  refine g_callVI (n := 3) (As := [aP ζ.1, aP 1, aI (h 1 1)]) (st := []) dX11_check_29 ml_X11_391 sh_91 rfl (al_91 hn) rfl rfl (Nat.le_of_ble_eq_true rfl) (RtI.mono w (fun r1 h1 w => ?_))
  refine g_istore_n (ls' := [aP 0, aI (h 1 1), aI r1]) dX11_check_32 (Nat.le_of_ble_eq_true rfl) rfl rfl ?_
  refine g_iload_n dX11_check_33 rfl ?_
  refine g_iload_n dX11_check_34 rfl ?_
  obtain ⟨o1, w⟩ := w
  obtain ⟨o2, w⟩ := w
  refine g_cmp_ne (tgt := 53) dX11_check_35 rfl o1 o2 ?_
  refine ite_imp (fun w => ?_) (fun w => ?_) w
  · refine g_iload_n dX11_check_53 rfl ?_
    exact g_retI dX11_check_54 rfl w
  · refine g_iload_n dX11_check_38 rfl ?_
    refine g_aload_n dX11_check_39 rfl ?_
    refine g_getR dX11_check_40 fl_X11_86 sh_0 (al_0 hn) (fun _ _ _ => rfl) rf_0_13 ?_
    refine g_getI (J := 0) dX11_check_43 fl_X11_382 (shw_0 hs1) (alw_0 hs1 hn) (fun _ _ _ => rfl) rfl ?_
    obtain ⟨o3, w⟩ := w
    refine g_cmp_ne (tgt := 53) dX11_check_46 rfl o1 o3 ?_
    refine ite_imp (fun w => ?_) (fun w => ?_) w
    · refine g_iload_n dX11_check_53 rfl ?_
      exact g_retI dX11_check_54 rfl w
    · refine g_iconst dX11_check_49 ?_
      refine g_goto (tgt := 54) dX11_check_50 rfl ?_
      exact g_retI dX11_check_54 rfl w
-- X11_image: not walked (aaload)
-- X11_restore: not walked (aaload)
theorem e_X11_count {l : Launch} {D : Nat} {ζ : ZP} {h : HI} {Q : Int → HI → Prop} {x1 : Int} (hn : 144 ≤ ζ.2.2.2.2) (hs1 : isW ζ.1) (w : (rg x1) ∧ (x1 = 0 → (Q (h 4 3) h)) ∧ (x1 = 1 → (Q (h 4 4) h)) ∧ (x1 = 2 → (Q (h 3 3) h)) ∧ (x1 = 3 → (Q (h 3 5) h)) ∧ (x1 = 4 → (Q (h 3 10) h)) ∧ (x1 = 5 → (Q (h 10 0) h)) ∧ (x1 = 6 → (Q (h 10 7) h)) ∧ (x1 = 7 → (Q (h ζ.1 0) h)) ∧ (x1 = 8 → (Q (h 1 1) h)) ∧ (x1 < 0 ∨ 8 < x1 → (Q (-1) h))) : RtI l (D + 1) mX11_count (zz ζ) [aP 0, aI x1] h Q := by
  refine RtI.of 0 pn_X11 [aP 0, aI x1] rfl rfl ?_
  refine g_iload_n dX11_count_0 rfl ?_
  obtain ⟨o1, w⟩ := w
  obtain ⟨w0, w1, w2, w3, w4, w5, w6, w7, w8, w9⟩ := w
  by_cases hout : x1 < 0 ∨ 8 < x1
  · refine g_tabOut (tgt := 136) dX11_count_1 o1 hout rfl ?_
    have w := w9 hout
    refine g_iconst dX11_count_136 ?_
    exact g_retI dX11_count_137 rfl w
  by_cases hc0 : x1 = 0
  · have w := w0 hc0
    refine g_tabIn (tgt := 52) dX11_count_1 o1 (by omega) (by omega) (by rw [hc0]; rfl) rfl ?_
    refine g_aload_n dX11_count_52 rfl ?_
    refine g_getR dX11_count_53 fl_X11_19 sh_0 (al_0 hn) (fun _ _ _ => rfl) rf_0_1 ?_
    refine g_getR dX11_count_56 fl_X11_128 sh_3 (al_3 hn) (fun _ _ _ => rfl) rf_3_0 ?_
    refine g_getI (J := 3) dX11_count_59 fl_X11_397 sh_4 (al_4 hn) (fun _ _ _ => rfl) rfl ?_
    exact g_retI dX11_count_62 rfl w
  by_cases hc1 : x1 = 1
  · have w := w1 hc1
    refine g_tabIn (tgt := 63) dX11_count_1 o1 (by omega) (by omega) (by rw [hc1]; rfl) rfl ?_
    refine g_aload_n dX11_count_63 rfl ?_
    refine g_getR dX11_count_64 fl_X11_19 sh_0 (al_0 hn) (fun _ _ _ => rfl) rf_0_1 ?_
    refine g_getR dX11_count_67 fl_X11_128 sh_3 (al_3 hn) (fun _ _ _ => rfl) rf_3_0 ?_
    refine g_getI (J := 4) dX11_count_70 fl_X11_400 sh_4 (al_4 hn) (fun _ _ _ => rfl) rfl ?_
    exact g_retI dX11_count_73 rfl w
  by_cases hc2 : x1 = 2
  · have w := w2 hc2
    refine g_tabIn (tgt := 74) dX11_count_1 o1 (by omega) (by omega) (by rw [hc2]; rfl) rfl ?_
    refine g_aload_n dX11_count_74 rfl ?_
    refine g_getR dX11_count_75 fl_X11_19 sh_0 (al_0 hn) (fun _ _ _ => rfl) rf_0_1 ?_
    refine g_getI (J := 3) dX11_count_78 fl_X11_204 sh_3 (al_3 hn) (fun _ _ _ => rfl) rfl ?_
    exact g_retI dX11_count_81 rfl w
  by_cases hc3 : x1 = 3
  · have w := w3 hc3
    refine g_tabIn (tgt := 82) dX11_count_1 o1 (by omega) (by omega) (by rw [hc3]; rfl) rfl ?_
    refine g_aload_n dX11_count_82 rfl ?_
    refine g_getR dX11_count_83 fl_X11_19 sh_0 (al_0 hn) (fun _ _ _ => rfl) rf_0_1 ?_
    refine g_getI (J := 5) dX11_count_86 fl_X11_149 sh_3 (al_3 hn) (fun _ _ _ => rfl) rfl ?_
    exact g_retI dX11_count_89 rfl w
  by_cases hc4 : x1 = 4
  · have w := w4 hc4
    refine g_tabIn (tgt := 90) dX11_count_1 o1 (by omega) (by omega) (by rw [hc4]; rfl) rfl ?_
    refine g_aload_n dX11_count_90 rfl ?_
    refine g_getR dX11_count_91 fl_X11_19 sh_0 (al_0 hn) (fun _ _ _ => rfl) rf_0_1 ?_
    refine g_getI (J := 10) dX11_count_94 fl_X11_156 sh_3 (al_3 hn) (fun _ _ _ => rfl) rfl ?_
    exact g_retI dX11_count_97 rfl w
  by_cases hc5 : x1 = 5
  · have w := w5 hc5
    refine g_tabIn (tgt := 98) dX11_count_1 o1 (by omega) (by omega) (by rw [hc5]; rfl) rfl ?_
    refine g_aload_n dX11_count_98 rfl ?_
    refine g_getR dX11_count_99 fl_X11_19 sh_0 (al_0 hn) (fun _ _ _ => rfl) rf_0_1 ?_
    refine g_getR dX11_count_102 fl_X11_188 sh_3 (al_3 hn) (fun _ _ _ => rfl) rf_3_2 ?_
    refine g_getI (J := 0) dX11_count_105 fl_X11_318 sh_10 (al_10 hn) (fun _ _ _ => rfl) rfl ?_
    exact g_retI dX11_count_108 rfl w
  by_cases hc6 : x1 = 6
  · have w := w6 hc6
    refine g_tabIn (tgt := 109) dX11_count_1 o1 (by omega) (by omega) (by rw [hc6]; rfl) rfl ?_
    refine g_aload_n dX11_count_109 rfl ?_
    refine g_getR dX11_count_110 fl_X11_19 sh_0 (al_0 hn) (fun _ _ _ => rfl) rf_0_1 ?_
    refine g_getR dX11_count_113 fl_X11_188 sh_3 (al_3 hn) (fun _ _ _ => rfl) rf_3_2 ?_
    refine g_getI (J := 7) dX11_count_116 fl_X11_351 sh_10 (al_10 hn) (fun _ _ _ => rfl) rfl ?_
    exact g_retI dX11_count_119 rfl w
  by_cases hc7 : x1 = 7
  · have w := w7 hc7
    refine g_tabIn (tgt := 120) dX11_count_1 o1 (by omega) (by omega) (by rw [hc7]; rfl) rfl ?_
    refine g_aload_n dX11_count_120 rfl ?_
    refine g_getR dX11_count_121 fl_X11_86 sh_0 (al_0 hn) (fun _ _ _ => rfl) rf_0_13 ?_
    refine g_getI (J := 0) dX11_count_124 fl_X11_382 (shw_0 hs1) (alw_0 hs1 hn) (fun _ _ _ => rfl) rfl ?_
    exact g_retI dX11_count_127 rfl w
  by_cases hc8 : x1 = 8
  · have w := w8 hc8
    refine g_tabIn (tgt := 128) dX11_count_1 o1 (by omega) (by omega) (by rw [hc8]; rfl) rfl ?_
    refine g_aload_n dX11_count_128 rfl ?_
    refine g_getR dX11_count_129 fl_X11_10 sh_0 (al_0 hn) (fun _ _ _ => rfl) rf_0_0 ?_
    refine g_getI (J := 1) dX11_count_132 fl_X11_100 sh_1 (al_1 hn) (fun _ _ _ => rfl) rfl ?_
    exact g_retI dX11_count_135 rfl w
  omega
theorem e_X11_within {l : Launch} {D : Nat} {ζ : ZP} {h : HI} {Q : Int → HI → Prop} {x0 x1 x2 : Int} (hn : 144 ≤ ζ.2.2.2.2) (w : (rg x0) ∧ (rg x1) ∧ (if x0 < x1 then (Q 0 h) else ((rg x2) ∧ (if x2 < x0 then (Q 0 h) else (Q 1 h))))) : RtI l (D + 1) mX11_within (zz ζ) [aI x0, aI x1, aI x2] h Q := by
  refine RtI.of 0 pn_X11 [aI x0, aI x1, aI x2] rfl rfl ?_
  refine g_iload_n dX11_within_0 rfl ?_
  refine g_iload_n dX11_within_1 rfl ?_
  obtain ⟨o1, w⟩ := w
  obtain ⟨o2, w⟩ := w
  refine g_cmp_lt (tgt := 14) dX11_within_2 rfl o1 o2 ?_
  refine ite_imp (fun w => ?_) (fun w => ?_) w
  · refine g_iconst dX11_within_14 ?_
    exact g_retZ dX11_within_15 rfl (Or.inl rfl) w
  · refine g_iload_n dX11_within_5 rfl ?_
    refine g_iload_n dX11_within_6 rfl ?_
    obtain ⟨o3, w⟩ := w
    refine g_cmp_gt (tgt := 14) dX11_within_7 rfl o1 o3 ?_
    refine ite_imp (fun w => ?_) (fun w => ?_) w
    · refine g_iconst dX11_within_14 ?_
      exact g_retZ dX11_within_15 rfl (Or.inl rfl) w
    · refine g_iconst dX11_within_10 ?_
      refine g_goto (tgt := 15) dX11_within_11 rfl ?_
      exact g_retZ dX11_within_15 rfl (Or.inr rfl) w
theorem e_X11_cut {l : Launch} {D : Nat} {ζ : ZP} {h : HI} {Q : Int → HI → Prop} {x0 x1 : Int} (hn : 144 ≤ ζ.2.2.2.2) (w : (rg x1) ∧ (if ¬ x1 = 0 then ((rg x0) ∧ (x1 ≠ 0) ∧ Q (x0.tdiv x1) h) else (Q 0 h))) : RtI l (D + 1) mX11_cut (zz ζ) [aI x0, aI x1] h Q := by
  refine RtI.of 0 pn_X11 [aI x0, aI x1] rfl rfl ?_
  refine g_iload_n dX11_cut_0 rfl ?_
  obtain ⟨o1, w⟩ := w
  refine g_if_ne (tgt := 8) dX11_cut_1 rfl o1 ?_
  refine ite_imp (fun w => ?_) (fun w => ?_) w
  · refine g_iload_n dX11_cut_8 rfl ?_
    refine g_iload_n dX11_cut_9 rfl ?_
    obtain ⟨o2, w⟩ := w
    obtain ⟨o3, w⟩ := w
    refine g_idiv dX11_cut_10 o2 o1 o3 ?_
    exact g_retI dX11_cut_11 rfl w
  · refine g_iconst dX11_cut_4 ?_
    refine g_goto (tgt := 11) dX11_cut_5 rfl ?_
    exact g_retI dX11_cut_11 rfl w
theorem e_X11_divides {l : Launch} {D : Nat} {ζ : ZP} {h : HI} {Q : Int → HI → Prop} {x0 x1 : Int} (hn : 144 ≤ ζ.2.2.2.2) (w : (rg x0) ∧ (if x0 < 1 then (Q 0 h) else ((rg x1) ∧ (if x1 < x0 then (Q 0 h) else ((x0 ≠ 0) ∧ (rg (x1.tmod x0)) ∧ (if ¬ (x1.tmod x0) = 0 then (Q 0 h) else (Q 1 h))))))) : RtI l (D + 1) mX11_divides (zz ζ) [aI x0, aI x1] h Q := by
  refine RtI.of 0 pn_X11 [aI x0, aI x1] rfl rfl ?_
  refine g_iload_n dX11_divides_0 rfl ?_
  refine g_iconst dX11_divides_1 ?_
  obtain ⟨o1, w⟩ := w
  refine g_cmp_lt (tgt := 20) dX11_divides_2 rfl o1 (by decide) ?_
  refine ite_imp (fun w => ?_) (fun w => ?_) w
  · refine g_iconst dX11_divides_20 ?_
    exact g_retZ dX11_divides_21 rfl (Or.inl rfl) w
  · refine g_iload_n dX11_divides_5 rfl ?_
    refine g_iload_n dX11_divides_6 rfl ?_
    obtain ⟨o2, w⟩ := w
    refine g_cmp_lt (tgt := 20) dX11_divides_7 rfl o2 o1 ?_
    refine ite_imp (fun w => ?_) (fun w => ?_) w
    · refine g_iconst dX11_divides_20 ?_
      exact g_retZ dX11_divides_21 rfl (Or.inl rfl) w
    · refine g_iload_n dX11_divides_10 rfl ?_
      refine g_iload_n dX11_divides_11 rfl ?_
      obtain ⟨o3, w⟩ := w
      refine g_irem dX11_divides_12 o2 o1 o3 ?_
      obtain ⟨o4, w⟩ := w
      refine g_if_ne (tgt := 20) dX11_divides_13 rfl o4 ?_
      refine ite_imp (fun w => ?_) (fun w => ?_) w
      · refine g_iconst dX11_divides_20 ?_
        exact g_retZ dX11_divides_21 rfl (Or.inl rfl) w
      · refine g_iconst dX11_divides_16 ?_
        refine g_goto (tgt := 21) dX11_divides_17 rfl ?_
        exact g_retZ dX11_divides_21 rfl (Or.inr rfl) w
theorem b_X11_greatestDivisor_17 {l : Launch} {D : Nat} {ζ : ZP} {h : HI} {Q : Int → HI → Prop} {x2 x3 x4 : Int} (hn : 144 ≤ ζ.2.2.2.2) (w : (rg x4) ∧ (if x4 ≤ 0 then (Q x2 h) else ((rg x3) ∧ (if x3 = 0 then (Q x2 h) else ((rg x2) ∧ (x3 ≠ 0) ∧ G l (D + 1) 0 0 mX11_greatestDivisor (zz ζ) 17 [aU, aU, aI x3, aI (x2.tmod x3), aI (x4 + (-1)), aU] [] h (qI (zz ζ) Q)))))) : G l (D + 1) 0 0 mX11_greatestDivisor (zz ζ) 17 [aU, aU, aI x2, aI x3, aI x4, aU] [] h (qI (zz ζ) Q) := by
  refine g_iload dX11_greatestDivisor_17 rfl ?_
  obtain ⟨o1, w⟩ := w
  refine g_if_le (tgt := 42) dX11_greatestDivisor_19 rfl o1 ?_
  refine ite_imp (fun w => ?_) (fun w => ?_) w
  · refine g_iload_n dX11_greatestDivisor_42 rfl ?_
    exact g_retI dX11_greatestDivisor_43 rfl w
  · refine g_iload_n dX11_greatestDivisor_22 rfl ?_
    obtain ⟨o2, w⟩ := w
    refine g_if_eq (tgt := 42) dX11_greatestDivisor_23 rfl o2 ?_
    refine ite_imp (fun w => ?_) (fun w => ?_) w
    · refine g_iload_n dX11_greatestDivisor_42 rfl ?_
      exact g_retI dX11_greatestDivisor_43 rfl w
    · refine g_iload_n dX11_greatestDivisor_26 rfl ?_
      refine g_iload_n dX11_greatestDivisor_27 rfl ?_
      obtain ⟨o3, w⟩ := w
      obtain ⟨o4, w⟩ := w
      refine g_irem dX11_greatestDivisor_28 o3 o2 o4 ?_
      refine g_istore (ls' := [aU, aU, aI x2, aI x3, aI x4, aI (x2.tmod x3)]) dX11_greatestDivisor_29 (Nat.le_of_ble_eq_true rfl) rfl rfl ?_
      refine g_iload_n dX11_greatestDivisor_31 rfl ?_
      refine g_istore_n (ls' := [aU, aU, aI x3, aI x3, aI x4, aI (x2.tmod x3)]) dX11_greatestDivisor_32 (Nat.le_of_ble_eq_true rfl) rfl rfl ?_
      refine g_iload dX11_greatestDivisor_33 rfl ?_
      refine g_istore_n (ls' := [aU, aU, aI x3, aI (x2.tmod x3), aI x4, aI (x2.tmod x3)]) dX11_greatestDivisor_35 (Nat.le_of_ble_eq_true rfl) rfl rfl ?_
      refine g_iinc (ls' := [aU, aU, aI x3, aI (x2.tmod x3), aI (x4 + (-1)), aI (x2.tmod x3)]) dX11_greatestDivisor_36 rfl (Nat.le_of_ble_eq_true rfl) rfl rfl ?_
      refine g_goto (tgt := 17) dX11_greatestDivisor_39 rfl ?_
      exact g_sub (ls' := [aU, aU, aI x3, aI (x2.tmod x3), aI (x4 + (-1)), aU]) ⟨Or.inl rfl, Or.inl rfl, Or.inr rfl, Or.inr rfl, Or.inr rfl, Or.inl rfl, trivial⟩ w
theorem e_X11_greatestDivisor {l : Launch} {D : Nat} {ζ : ZP} {h : HI} {Q : Int → HI → Prop} {x0 x1 : Int} (hn : 144 ≤ ζ.2.2.2.2) (w : (rg x0) ∧ (if 0 ≤ x0 then (G l (D + 1) 0 0 mX11_greatestDivisor (zz ζ) 17 [aU, aU, aI x0, aI x1, aI 64, aU] [] h (qI (zz ζ) Q)) else (G l (D + 1) 0 0 mX11_greatestDivisor (zz ζ) 17 [aU, aU, aI (-x0), aI x1, aI 64, aU] [] h (qI (zz ζ) Q)))) : RtI l (D + 1) mX11_greatestDivisor (zz ζ) [aI x0, aI x1] h Q := by
  refine RtI.of 4 pn_X11 [aI x0, aI x1, aU, aU, aU, aU] rfl rfl ?_
  refine g_iload_n dX11_greatestDivisor_0 rfl ?_
  obtain ⟨o1, w⟩ := w
  refine g_if_ge (tgt := 9) dX11_greatestDivisor_1 rfl o1 ?_
  refine ite_imp (fun w => ?_) (fun w => ?_) w
  · refine g_iload_n dX11_greatestDivisor_9 rfl ?_
    refine g_istore_n (ls' := [aI x0, aI x1, aI x0, aU, aU, aU]) dX11_greatestDivisor_10 (Nat.le_of_ble_eq_true rfl) rfl rfl ?_
    refine g_iload_n dX11_greatestDivisor_11 rfl ?_
    refine g_istore_n (ls' := [aI x0, aI x1, aI x0, aI x1, aU, aU]) dX11_greatestDivisor_12 (Nat.le_of_ble_eq_true rfl) rfl rfl ?_
    refine g_bipush dX11_greatestDivisor_13 rfl ?_
    refine g_istore (ls' := [aI x0, aI x1, aI x0, aI x1, aI 64, aU]) dX11_greatestDivisor_15 (Nat.le_of_ble_eq_true rfl) rfl rfl ?_
    exact g_sub (ls' := [aU, aU, aI x0, aI x1, aI 64, aU]) ⟨Or.inl rfl, Or.inl rfl, Or.inr rfl, Or.inr rfl, Or.inr rfl, Or.inl rfl, trivial⟩ w
  · refine g_iload_n dX11_greatestDivisor_4 rfl ?_
    refine g_ineg dX11_greatestDivisor_5 ?_
    refine g_goto (tgt := 10) dX11_greatestDivisor_6 rfl ?_
    refine g_istore_n (ls' := [aI x0, aI x1, aI (-x0), aU, aU, aU]) dX11_greatestDivisor_10 (Nat.le_of_ble_eq_true rfl) rfl rfl ?_
    refine g_iload_n dX11_greatestDivisor_11 rfl ?_
    refine g_istore_n (ls' := [aI x0, aI x1, aI (-x0), aI x1, aU, aU]) dX11_greatestDivisor_12 (Nat.le_of_ble_eq_true rfl) rfl rfl ?_
    refine g_bipush dX11_greatestDivisor_13 rfl ?_
    refine g_istore (ls' := [aI x0, aI x1, aI (-x0), aI x1, aI 64, aU]) dX11_greatestDivisor_15 (Nat.le_of_ble_eq_true rfl) rfl rfl ?_
    exact g_sub (ls' := [aU, aU, aI (-x0), aI x1, aI 64, aU]) ⟨Or.inl rfl, Or.inl rfl, Or.inr rfl, Or.inr rfl, Or.inr rfl, Or.inl rfl, trivial⟩ w
theorem b_X11_pickCells_46 {l : Launch} {D : Nat} {ζ : ZP} {h : HI} {Q : Int → HI → Prop} {x3 x4 x5 x7 : Int} (hn : 144 ≤ ζ.2.2.2.2) (w : (rg x7) ∧ (rg x4) ∧ (if x4 ≤ x7 then (Q x4 h) else (RtI l D mX7_at (zz ζ) [aP 1, aI x7] h (fun r1 h1 => RtI l D mX5_hasCell (zz ζ) [aP 3, aI r1] h1 (fun r2 h2 => (rg r2) ∧ (if r2 = 0 then (Q (-1) h2) else ((rl (lband (lbshr x5 r1) 1)) ∧ (if ¬ (lband (lbshr x5 r1) 1) = 0 then (Q (-1) h2) else (RtI l D mX8_has (zz ζ) [aP 40, aI r1] h2 (fun r3 h3 => (rg r3) ∧ (if ¬ r3 = 0 then ((rg x3) ∧ (if x3 = 0 then ((0 ≤ x7 ∧ x7 < 60) ∧ G l (D + 1) 0 0 mX11_pickCells (zz ζ) 46 [aP 0, aU, aU, aI x3, aI x4, aL (lbor x5 (lbshl 1 r1)), aU, aI (x7 + 1), aU] [] (hu h3 51 x7 r1) (qI (zz ζ) Q)) else ((0 ≤ r1 ∧ r1 < 60) ∧ (rg (h3 11 r1)) ∧ (if (h3 11 r1) = (-1) then ((0 ≤ x7 ∧ x7 < 60) ∧ G l (D + 1) 0 0 mX11_pickCells (zz ζ) 46 [aP 0, aU, aU, aI x3, aI x4, aL (lbor x5 (lbshl 1 r1)), aU, aI (x7 + 1), aU] [] (hu h3 51 x7 r1) (qI (zz ζ) Q)) else (Q (-1) h3))))) else (Q (-1) h3)))))))))))) : G l (D + 1) 0 0 mX11_pickCells (zz ζ) 46 [aP 0, aU, aU, aI x3, aI x4, aL x5, aU, aI x7, aU] [] h (qI (zz ζ) Q) := by
  refine g_iload dX11_pickCells_46 rfl ?_
  refine g_iload dX11_pickCells_48 rfl ?_
  obtain ⟨o1, w⟩ := w
  obtain ⟨o2, w⟩ := w
  refine g_cmp_ge (tgt := 149) dX11_pickCells_50 rfl o1 o2 ?_
  refine ite_imp (fun w => ?_) (fun w => ?_) w
  · refine g_iload dX11_pickCells_149 rfl ?_
    exact g_retI dX11_pickCells_151 rfl w
  · refine g_aload_n dX11_pickCells_53 rfl ?_
    refine g_getR dX11_pickCells_54 fl_X11_10 sh_0 (al_0 hn) (fun _ _ _ => rfl) rf_0_0 ?_
    refine g_iload dX11_pickCells_57 rfl ?_
    refine g_callVI (n := 1) (As := [aI x7]) (st := []) dX11_pickCells_59 ml_X11_305 sh_1 rfl (al_1 hn) rfl rfl (Nat.le_of_ble_eq_true rfl) (RtI.mono w (fun r1 h1 w => ?_))
    refine g_istore (ls' := [aP 0, aU, aU, aI x3, aI x4, aL x5, aU, aI x7, aI r1]) dX11_pickCells_62 (Nat.le_of_ble_eq_true rfl) rfl rfl ?_
    refine g_aload_n dX11_pickCells_64 rfl ?_
    refine g_getR dX11_pickCells_65 fl_X11_19 sh_0 (al_0 hn) (fun _ _ _ => rfl) rf_0_1 ?_
    refine g_iload dX11_pickCells_68 rfl ?_
    refine g_callVI (n := 1) (As := [aI r1]) (st := []) dX11_pickCells_70 ml_X11_139 sh_3 rfl (al_3 hn) rfl rfl (Nat.le_of_ble_eq_true rfl) (RtI.mono w (fun r2 h2 w => ?_))
    obtain ⟨o3, w⟩ := w
    refine g_if_eq (tgt := 100) dX11_pickCells_73 rfl o3 ?_
    refine ite_imp (fun w => ?_) (fun w => ?_) w
    · refine g_iconst dX11_pickCells_100 ?_
      exact g_retI dX11_pickCells_101 rfl w
    · refine g_lload dX11_pickCells_76 rfl ?_
      refine g_iload dX11_pickCells_78 rfl ?_
      refine g_lshr dX11_pickCells_80 ?_
      refine g_lconst (v := 1) dX11_pickCells_81 rfl ?_
      refine g_land dX11_pickCells_82 ?_
      refine g_lconst (v := 0) dX11_pickCells_83 rfl ?_
      obtain ⟨o4, w⟩ := w
      refine g_lcmp dX11_pickCells_84 o4 (by decide) ?_
      refine g_if_ne (tgt := 100) dX11_pickCells_85 rfl (rg_lcm3 _ _) ?_
      refine ite_imp2 lcm3_ne (fun w => ?_) (fun w => ?_) w
      · refine g_iconst dX11_pickCells_100 ?_
        exact g_retI dX11_pickCells_101 rfl w
      · refine g_aload_n dX11_pickCells_88 rfl ?_
        refine g_getR dX11_pickCells_89 fl_X11_44 sh_0 (al_0 hn) (fun _ _ _ => rfl) rf_0_5 ?_
        refine g_iload dX11_pickCells_92 rfl ?_
        refine g_callVI (n := 1) (As := [aI r1]) (st := []) dX11_pickCells_94 ml_X11_354 sh_40 rfl (al_40 hn) rfl rfl (Nat.le_of_ble_eq_true rfl) (RtI.mono w (fun r3 h3 w => ?_))
        obtain ⟨o5, w⟩ := w
        refine g_if_ne (tgt := 102) dX11_pickCells_97 rfl o5 ?_
        refine ite_imp (fun w => ?_) (fun w => ?_) w
        · refine g_iload_n dX11_pickCells_102 rfl ?_
          obtain ⟨o6, w⟩ := w
          refine g_if_eq (tgt := 125) dX11_pickCells_103 rfl o6 ?_
          refine ite_imp (fun w => ?_) (fun w => ?_) w
          · refine g_lload dX11_pickCells_125 rfl ?_
            refine g_lconst (v := 1) dX11_pickCells_127 rfl ?_
            refine g_iload dX11_pickCells_128 rfl ?_
            refine g_lshl dX11_pickCells_130 ?_
            refine g_lor dX11_pickCells_131 ?_
            refine g_lstore (ls' := [aP 0, aU, aU, aI x3, aI x4, aL (lbor x5 (lbshl 1 r1)), aU, aI x7, aI r1]) dX11_pickCells_132 (Nat.le_of_ble_eq_true rfl) rfl rfl ?_
            refine g_aload_n dX11_pickCells_134 rfl ?_
            refine g_getR dX11_pickCells_135 fl_X11_48 sh_0 (al_0 hn) (fun _ _ _ => rfl) rf_0_6 ?_
            refine g_iload dX11_pickCells_138 rfl ?_
            refine g_iload dX11_pickCells_140 rfl ?_
            obtain ⟨o7, w⟩ := w
            refine g_iast dX11_pickCells_142 sh_51 (al_51 hn) (Nat.le_of_ble_eq_true rfl) o7 ?_
            refine g_iinc (ls' := [aP 0, aU, aU, aI x3, aI x4, aL (lbor x5 (lbshl 1 r1)), aU, aI (x7 + 1), aI r1]) dX11_pickCells_143 rfl (Nat.le_of_ble_eq_true rfl) rfl rfl ?_
            refine g_goto (tgt := 46) dX11_pickCells_146 rfl ?_
            exact g_sub (ls' := [aP 0, aU, aU, aI x3, aI x4, aL (lbor x5 (lbshl 1 r1)), aU, aI (x7 + 1), aU]) ⟨Or.inr rfl, Or.inl rfl, Or.inl rfl, Or.inr rfl, Or.inr rfl, Or.inr rfl, Or.inl rfl, Or.inr rfl, Or.inl rfl, trivial⟩ w
          · refine g_aload_n dX11_pickCells_106 rfl ?_
            refine g_getR dX11_pickCells_107 fl_X11_19 sh_0 (al_0 hn) (fun _ _ _ => rfl) rf_0_1 ?_
            refine g_getR dX11_pickCells_110 fl_X11_188 sh_3 (al_3 hn) (fun _ _ _ => rfl) rf_3_2 ?_
            refine g_getR dX11_pickCells_113 fl_X11_192 sh_10 (al_10 hn) (fun _ _ _ => rfl) rf_10_1 ?_
            refine g_iload dX11_pickCells_116 rfl ?_
            obtain ⟨o8, w⟩ := w
            refine g_iald dX11_pickCells_118 sh_11 (al_11 hn) (Nat.le_of_ble_eq_true rfl) o8 ?_
            refine g_iconst dX11_pickCells_119 ?_
            obtain ⟨o9, w⟩ := w
            refine g_cmp_eq (tgt := 125) dX11_pickCells_120 rfl o9 (by decide) ?_
            refine ite_imp (fun w => ?_) (fun w => ?_) w
            · refine g_lload dX11_pickCells_125 rfl ?_
              refine g_lconst (v := 1) dX11_pickCells_127 rfl ?_
              refine g_iload dX11_pickCells_128 rfl ?_
              refine g_lshl dX11_pickCells_130 ?_
              refine g_lor dX11_pickCells_131 ?_
              refine g_lstore (ls' := [aP 0, aU, aU, aI x3, aI x4, aL (lbor x5 (lbshl 1 r1)), aU, aI x7, aI r1]) dX11_pickCells_132 (Nat.le_of_ble_eq_true rfl) rfl rfl ?_
              refine g_aload_n dX11_pickCells_134 rfl ?_
              refine g_getR dX11_pickCells_135 fl_X11_48 sh_0 (al_0 hn) (fun _ _ _ => rfl) rf_0_6 ?_
              refine g_iload dX11_pickCells_138 rfl ?_
              refine g_iload dX11_pickCells_140 rfl ?_
              obtain ⟨o10, w⟩ := w
              refine g_iast dX11_pickCells_142 sh_51 (al_51 hn) (Nat.le_of_ble_eq_true rfl) o10 ?_
              refine g_iinc (ls' := [aP 0, aU, aU, aI x3, aI x4, aL (lbor x5 (lbshl 1 r1)), aU, aI (x7 + 1), aI r1]) dX11_pickCells_143 rfl (Nat.le_of_ble_eq_true rfl) rfl rfl ?_
              refine g_goto (tgt := 46) dX11_pickCells_146 rfl ?_
              exact g_sub (ls' := [aP 0, aU, aU, aI x3, aI x4, aL (lbor x5 (lbshl 1 r1)), aU, aI (x7 + 1), aU]) ⟨Or.inr rfl, Or.inl rfl, Or.inl rfl, Or.inr rfl, Or.inr rfl, Or.inr rfl, Or.inl rfl, Or.inr rfl, Or.inl rfl, trivial⟩ w
            · refine g_iconst dX11_pickCells_123 ?_
              exact g_retI dX11_pickCells_124 rfl w
        · refine g_iconst dX11_pickCells_100 ?_
          exact g_retI dX11_pickCells_101 rfl w
theorem e_X11_pickCells {l : Launch} {D : Nat} {ζ : ZP} {h : HI} {Q : Int → HI → Prop} {x1 x2 x3 : Int} (hn : 144 ≤ ζ.2.2.2.2) (w : RtI l D mX11_within (zz ζ) [aI (h 1 1), aI x1, aI x2] (hu h 1 1 0) (fun r1 h1 => (rg r1) ∧ (if ¬ r1 = 0 then (RtV l D mX8_refresh (zz ζ) [aP 40, aP 3] h1 (fun h2 => G l (D + 1) 0 0 mX11_pickCells (zz ζ) 46 [aP 0, aU, aU, aI x3, aI (h 1 1), aL 0, aU, aI 0, aU] [] h2 (qI (zz ζ) Q))) else (Q (-1) h1)))) : RtI l (D + 1) mX11_pickCells (zz ζ) [aP 0, aI x1, aI x2, aI x3] h Q := by
  refine RtI.of 5 pn_X11 [aP 0, aI x1, aI x2, aI x3, aU, aU, aU, aU, aU] rfl rfl ?_
  refine g_aload_n dX11_pickCells_0 rfl ?_
  refine g_getR dX11_pickCells_1 fl_X11_10 sh_0 (al_0 hn) (fun _ _ _ => rfl) rf_0_0 ?_
  refine g_getI (J := 1) dX11_pickCells_4 fl_X11_100 sh_1 (al_1 hn) (fun _ _ _ => rfl) rfl ?_
  refine g_istore (ls' := [aP 0, aI x1, aI x2, aI x3, aI (h 1 1), aU, aU, aU, aU]) dX11_pickCells_7 (Nat.le_of_ble_eq_true rfl) rfl rfl ?_
  refine g_aload_n dX11_pickCells_9 rfl ?_
  refine g_getR dX11_pickCells_10 fl_X11_10 sh_0 (al_0 hn) (fun _ _ _ => rfl) rf_0_0 ?_
  refine g_iconst dX11_pickCells_13 ?_
  refine g_putI (J := 1) dX11_pickCells_14 fl_X11_100 sh_1 (al_1 hn) rfl rfl ?_
  refine g_iload dX11_pickCells_17 rfl ?_
  refine g_iload_n dX11_pickCells_19 rfl ?_
  refine g_iload_n dX11_pickCells_20 rfl ?_
  refine g_callSI (n := 3) (As := [aI (h 1 1), aI x1, aI x2]) (st := []) dX11_pickCells_21 ml_X11_145 rfl rfl (Nat.le_of_ble_eq_true rfl) rfl (RtI.mono w (fun r1 h1 w => ?_))
  obtain ⟨o1, w⟩ := w
  refine g_if_ne (tgt := 29) dX11_pickCells_24 rfl o1 ?_
  refine ite_imp (fun w => ?_) (fun w => ?_) w
  · refine g_aload_n dX11_pickCells_29 rfl ?_
    refine g_getR dX11_pickCells_30 fl_X11_44 sh_0 (al_0 hn) (fun _ _ _ => rfl) rf_0_5 ?_
    refine g_aload_n dX11_pickCells_33 rfl ?_
    refine g_getR dX11_pickCells_34 fl_X11_19 sh_0 (al_0 hn) (fun _ _ _ => rfl) rf_0_1 ?_
    refine g_callVV (n := 1) (As := [aP 3]) (st := []) dX11_pickCells_37 ml_X11_171 sh_40 rfl (al_40 hn) rfl rfl (Nat.le_of_ble_eq_true rfl) (RtV.mono w (fun h2 w => ?_))
    refine g_lconst (v := 0) dX11_pickCells_40 rfl ?_
    refine g_lstore (ls' := [aP 0, aI x1, aI x2, aI x3, aI (h 1 1), aL 0, aU, aU, aU]) dX11_pickCells_41 (Nat.le_of_ble_eq_true rfl) rfl rfl ?_
    refine g_iconst dX11_pickCells_43 ?_
    refine g_istore (ls' := [aP 0, aI x1, aI x2, aI x3, aI (h 1 1), aL 0, aU, aI 0, aU]) dX11_pickCells_44 (Nat.le_of_ble_eq_true rfl) rfl rfl ?_
    exact g_sub (ls' := [aP 0, aU, aU, aI x3, aI (h 1 1), aL 0, aU, aI 0, aU]) ⟨Or.inr rfl, Or.inl rfl, Or.inl rfl, Or.inr rfl, Or.inr rfl, Or.inr rfl, Or.inl rfl, Or.inr rfl, Or.inl rfl, trivial⟩ w
  · refine g_iconst dX11_pickCells_27 ?_
    exact g_retI dX11_pickCells_28 rfl w
theorem b_X11_strongCells_5 {l : Launch} {D : Nat} {ζ : ZP} {h : HI} {Q : Int → HI → Prop} {x1 x2 x3 x4 : Int} (hn : 144 ≤ ζ.2.2.2.2) (w : (rg x4) ∧ (rg x1) ∧ (if x1 ≤ x4 then (Q x3 h) else ((0 ≤ x4 ∧ x4 < 60) ∧ (0 ≤ (h 51 x4) ∧ (h 51 x4) < 60) ∧ (rg (h 44 (h 51 x4))) ∧ (rg x2) ∧ (if (h 44 (h 51 x4)) < x2 then (G l (D + 1) 0 0 mX11_strongCells (zz ζ) 5 [aP 0, aI x1, aI x2, aI (x3 + 0), aI (x4 + 1)] [] h (qI (zz ζ) Q)) else (G l (D + 1) 0 0 mX11_strongCells (zz ζ) 5 [aP 0, aI x1, aI x2, aI (x3 + 1), aI (x4 + 1)] [] h (qI (zz ζ) Q)))))) : G l (D + 1) 0 0 mX11_strongCells (zz ζ) 5 [aP 0, aI x1, aI x2, aI x3, aI x4] [] h (qI (zz ζ) Q) := by
  refine g_iload dX11_strongCells_5 rfl ?_
  refine g_iload_n dX11_strongCells_7 rfl ?_
  obtain ⟨o1, w⟩ := w
  obtain ⟨o2, w⟩ := w
  refine g_cmp_ge (tgt := 44) dX11_strongCells_8 rfl o1 o2 ?_
  refine ite_imp (fun w => ?_) (fun w => ?_) w
  · refine g_iload_n dX11_strongCells_44 rfl ?_
    exact g_retI dX11_strongCells_45 rfl w
  · refine g_iload_n dX11_strongCells_11 rfl ?_
    refine g_aload_n dX11_strongCells_12 rfl ?_
    refine g_getR dX11_strongCells_13 fl_X11_44 sh_0 (al_0 hn) (fun _ _ _ => rfl) rf_0_5 ?_
    refine g_getR dX11_strongCells_16 fl_X11_257 sh_40 (al_40 hn) (fun _ _ _ => rfl) rf_40_4 ?_
    refine g_aload_n dX11_strongCells_19 rfl ?_
    refine g_getR dX11_strongCells_20 fl_X11_48 sh_0 (al_0 hn) (fun _ _ _ => rfl) rf_0_6 ?_
    refine g_iload dX11_strongCells_23 rfl ?_
    obtain ⟨o3, w⟩ := w
    refine g_iald dX11_strongCells_25 sh_51 (al_51 hn) (Nat.le_of_ble_eq_true rfl) o3 ?_
    obtain ⟨o4, w⟩ := w
    refine g_iald dX11_strongCells_26 sh_44 (al_44 hn) (Nat.le_of_ble_eq_true rfl) o4 ?_
    refine g_iload_n dX11_strongCells_27 rfl ?_
    obtain ⟨o5, w⟩ := w
    obtain ⟨o6, w⟩ := w
    refine g_cmp_lt (tgt := 35) dX11_strongCells_28 rfl o5 o6 ?_
    refine ite_imp (fun w => ?_) (fun w => ?_) w
    · refine g_iconst dX11_strongCells_35 ?_
      refine g_iadd dX11_strongCells_36 ?_
      refine g_istore_n (ls' := [aP 0, aI x1, aI x2, aI (x3 + 0), aI x4]) dX11_strongCells_37 (Nat.le_of_ble_eq_true rfl) rfl rfl ?_
      refine g_iinc (ls' := [aP 0, aI x1, aI x2, aI (x3 + 0), aI (x4 + 1)]) dX11_strongCells_38 rfl (Nat.le_of_ble_eq_true rfl) rfl rfl ?_
      refine g_goto (tgt := 5) dX11_strongCells_41 rfl ?_
      exact g_sub (ls' := [aP 0, aI x1, aI x2, aI (x3 + 0), aI (x4 + 1)]) ⟨Or.inr rfl, Or.inr rfl, Or.inr rfl, Or.inr rfl, Or.inr rfl, trivial⟩ w
    · refine g_iconst dX11_strongCells_31 ?_
      refine g_goto (tgt := 36) dX11_strongCells_32 rfl ?_
      refine g_iadd dX11_strongCells_36 ?_
      refine g_istore_n (ls' := [aP 0, aI x1, aI x2, aI (x3 + 1), aI x4]) dX11_strongCells_37 (Nat.le_of_ble_eq_true rfl) rfl rfl ?_
      refine g_iinc (ls' := [aP 0, aI x1, aI x2, aI (x3 + 1), aI (x4 + 1)]) dX11_strongCells_38 rfl (Nat.le_of_ble_eq_true rfl) rfl rfl ?_
      refine g_goto (tgt := 5) dX11_strongCells_41 rfl ?_
      exact g_sub (ls' := [aP 0, aI x1, aI x2, aI (x3 + 1), aI (x4 + 1)]) ⟨Or.inr rfl, Or.inr rfl, Or.inr rfl, Or.inr rfl, Or.inr rfl, trivial⟩ w
theorem e_X11_strongCells {l : Launch} {D : Nat} {ζ : ZP} {h : HI} {Q : Int → HI → Prop} {x1 x2 : Int} (hn : 144 ≤ ζ.2.2.2.2) (w : G l (D + 1) 0 0 mX11_strongCells (zz ζ) 5 [aP 0, aI x1, aI x2, aI 0, aI 0] [] h (qI (zz ζ) Q)) : RtI l (D + 1) mX11_strongCells (zz ζ) [aP 0, aI x1, aI x2] h Q := by
  refine RtI.of 2 pn_X11 [aP 0, aI x1, aI x2, aU, aU] rfl rfl ?_
  refine g_iconst dX11_strongCells_0 ?_
  refine g_istore_n (ls' := [aP 0, aI x1, aI x2, aI 0, aU]) dX11_strongCells_1 (Nat.le_of_ble_eq_true rfl) rfl rfl ?_
  refine g_iconst dX11_strongCells_2 ?_
  refine g_istore (ls' := [aP 0, aI x1, aI x2, aI 0, aI 0]) dX11_strongCells_3 (Nat.le_of_ble_eq_true rfl) rfl rfl ?_
  exact g_sub (ls' := [aP 0, aI x1, aI x2, aI 0, aI 0]) ⟨Or.inr rfl, Or.inr rfl, Or.inr rfl, Or.inr rfl, Or.inr rfl, trivial⟩ w
theorem b_X11_strongPairs_15 {l : Launch} {D : Nat} {ζ : ZP} {h : HI} {Q : Int → HI → Prop} {x2 x3 x4 x5 : Int} (hn : 144 ≤ ζ.2.2.2.2) (w : (rg x5) ∧ (rg x4) ∧ (if x4 ≤ x5 then (Q x3 h) else ((0 ≤ x5 ∧ x5 < 60) ∧ (0 ≤ (h 51 x5) ∧ (h 51 x5) < 60) ∧ (0 ≤ x4 ∧ x4 < 60) ∧ (0 ≤ (h 51 x4) ∧ (h 51 x4) < 60) ∧ (rg ((h 44 (h 51 x5)) + (h 44 (h 51 x4)))) ∧ (rg x2) ∧ (if ((h 44 (h 51 x5)) + (h 44 (h 51 x4))) < x2 then (G l (D + 1) 0 0 mX11_strongPairs (zz ζ) 15 [aP 0, aU, aI x2, aI x3, aI x4, aI (x5 + 1)] [] h (qI (zz ζ) Q)) else (G l (D + 1) 0 0 mX11_strongPairs (zz ζ) 15 [aP 0, aU, aI x2, aI (x3 + 1), aI (x4 + (-1)), aI (x5 + 1)] [] h (qI (zz ζ) Q)))))) : G l (D + 1) 0 0 mX11_strongPairs (zz ζ) 15 [aP 0, aU, aI x2, aI x3, aI x4, aI x5] [] h (qI (zz ζ) Q) := by
  refine g_iload dX11_strongPairs_15 rfl ?_
  refine g_iload dX11_strongPairs_17 rfl ?_
  obtain ⟨o1, w⟩ := w
  obtain ⟨o2, w⟩ := w
  refine g_cmp_ge (tgt := 69) dX11_strongPairs_19 rfl o1 o2 ?_
  refine ite_imp (fun w => ?_) (fun w => ?_) w
  · refine g_iload_n dX11_strongPairs_69 rfl ?_
    exact g_retI dX11_strongPairs_70 rfl w
  · refine g_aload_n dX11_strongPairs_22 rfl ?_
    refine g_getR dX11_strongPairs_23 fl_X11_44 sh_0 (al_0 hn) (fun _ _ _ => rfl) rf_0_5 ?_
    refine g_getR dX11_strongPairs_26 fl_X11_257 sh_40 (al_40 hn) (fun _ _ _ => rfl) rf_40_4 ?_
    refine g_aload_n dX11_strongPairs_29 rfl ?_
    refine g_getR dX11_strongPairs_30 fl_X11_48 sh_0 (al_0 hn) (fun _ _ _ => rfl) rf_0_6 ?_
    refine g_iload dX11_strongPairs_33 rfl ?_
    obtain ⟨o3, w⟩ := w
    refine g_iald dX11_strongPairs_35 sh_51 (al_51 hn) (Nat.le_of_ble_eq_true rfl) o3 ?_
    obtain ⟨o4, w⟩ := w
    refine g_iald dX11_strongPairs_36 sh_44 (al_44 hn) (Nat.le_of_ble_eq_true rfl) o4 ?_
    refine g_aload_n dX11_strongPairs_37 rfl ?_
    refine g_getR dX11_strongPairs_38 fl_X11_44 sh_0 (al_0 hn) (fun _ _ _ => rfl) rf_0_5 ?_
    refine g_getR dX11_strongPairs_41 fl_X11_257 sh_40 (al_40 hn) (fun _ _ _ => rfl) rf_40_4 ?_
    refine g_aload_n dX11_strongPairs_44 rfl ?_
    refine g_getR dX11_strongPairs_45 fl_X11_48 sh_0 (al_0 hn) (fun _ _ _ => rfl) rf_0_6 ?_
    refine g_iload dX11_strongPairs_48 rfl ?_
    obtain ⟨o5, w⟩ := w
    refine g_iald dX11_strongPairs_50 sh_51 (al_51 hn) (Nat.le_of_ble_eq_true rfl) o5 ?_
    obtain ⟨o6, w⟩ := w
    refine g_iald dX11_strongPairs_51 sh_44 (al_44 hn) (Nat.le_of_ble_eq_true rfl) o6 ?_
    refine g_iadd dX11_strongPairs_52 ?_
    refine g_iload_n dX11_strongPairs_53 rfl ?_
    obtain ⟨o7, w⟩ := w
    obtain ⟨o8, w⟩ := w
    refine g_cmp_lt (tgt := 63) dX11_strongPairs_54 rfl o7 o8 ?_
    refine ite_imp (fun w => ?_) (fun w => ?_) w
    · refine g_iinc (ls' := [aP 0, aU, aI x2, aI x3, aI x4, aI (x5 + 1)]) dX11_strongPairs_63 rfl (Nat.le_of_ble_eq_true rfl) rfl rfl ?_
      refine g_goto (tgt := 15) dX11_strongPairs_66 rfl ?_
      exact g_sub (ls' := [aP 0, aU, aI x2, aI x3, aI x4, aI (x5 + 1)]) ⟨Or.inr rfl, Or.inl rfl, Or.inr rfl, Or.inr rfl, Or.inr rfl, Or.inr rfl, trivial⟩ w
    · refine g_iinc (ls' := [aP 0, aU, aI x2, aI (x3 + 1), aI x4, aI x5]) dX11_strongPairs_57 rfl (Nat.le_of_ble_eq_true rfl) rfl rfl ?_
      refine g_iinc (ls' := [aP 0, aU, aI x2, aI (x3 + 1), aI (x4 + (-1)), aI x5]) dX11_strongPairs_60 rfl (Nat.le_of_ble_eq_true rfl) rfl rfl ?_
      refine g_iinc (ls' := [aP 0, aU, aI x2, aI (x3 + 1), aI (x4 + (-1)), aI (x5 + 1)]) dX11_strongPairs_63 rfl (Nat.le_of_ble_eq_true rfl) rfl rfl ?_
      refine g_goto (tgt := 15) dX11_strongPairs_66 rfl ?_
      exact g_sub (ls' := [aP 0, aU, aI x2, aI (x3 + 1), aI (x4 + (-1)), aI (x5 + 1)]) ⟨Or.inr rfl, Or.inl rfl, Or.inr rfl, Or.inr rfl, Or.inr rfl, Or.inr rfl, trivial⟩ w
theorem e_X11_strongPairs {l : Launch} {D : Nat} {ζ : ZP} {h : HI} {Q : Int → HI → Prop} {x1 x2 : Int} (hn : 144 ≤ ζ.2.2.2.2) (w : RtV l D mX11_sortPicked (zz ζ) [aP 0, aI x1] h (fun h1 => G l (D + 1) 0 0 mX11_strongPairs (zz ζ) 15 [aP 0, aU, aI x2, aI 0, aI (x1 - 1), aI 0] [] h1 (qI (zz ζ) Q))) : RtI l (D + 1) mX11_strongPairs (zz ζ) [aP 0, aI x1, aI x2] h Q := by
  refine RtI.of 3 pn_X11 [aP 0, aI x1, aI x2, aU, aU, aU] rfl rfl ?_
  refine g_aload_n dX11_strongPairs_0 rfl ?_
  refine g_iload_n dX11_strongPairs_1 rfl ?_
  refine g_callVV (n := 1) (As := [aI x1]) (st := []) dX11_strongPairs_2 ml_X11_403 sh_0 rfl (al_0 hn) rfl rfl (Nat.le_of_ble_eq_true rfl) (RtV.mono w (fun h1 w => ?_))
  refine g_iconst dX11_strongPairs_5 ?_
  refine g_istore_n (ls' := [aP 0, aI x1, aI x2, aI 0, aU, aU]) dX11_strongPairs_6 (Nat.le_of_ble_eq_true rfl) rfl rfl ?_
  refine g_iload_n dX11_strongPairs_7 rfl ?_
  refine g_iconst dX11_strongPairs_8 ?_
  refine g_isub dX11_strongPairs_9 ?_
  refine g_istore (ls' := [aP 0, aI x1, aI x2, aI 0, aI (x1 - 1), aU]) dX11_strongPairs_10 (Nat.le_of_ble_eq_true rfl) rfl rfl ?_
  refine g_iconst dX11_strongPairs_12 ?_
  refine g_istore (ls' := [aP 0, aI x1, aI x2, aI 0, aI (x1 - 1), aI 0]) dX11_strongPairs_13 (Nat.le_of_ble_eq_true rfl) rfl rfl ?_
  exact g_sub (ls' := [aP 0, aU, aI x2, aI 0, aI (x1 - 1), aI 0]) ⟨Or.inr rfl, Or.inl rfl, Or.inr rfl, Or.inr rfl, Or.inr rfl, Or.inr rfl, trivial⟩ w
theorem b_X11_sortPicked_2 {l : Launch} {D : Nat} {ζ : ZP} {h : HI} {Q : HI → Prop} {x1 x2 : Int} (hn : 144 ≤ ζ.2.2.2.2) (w : (rg x2) ∧ (rg x1) ∧ (if x1 ≤ x2 then (Q h) else ((0 ≤ x2 ∧ x2 < 60) ∧ G l (D + 1) 0 0 mX11_sortPicked (zz ζ) 17 [aP 0, aI x1, aI x2, aI (h 51 x2), aI x2] [] h (qV (zz ζ) Q)))) : G l (D + 1) 0 0 mX11_sortPicked (zz ζ) 2 [aP 0, aI x1, aI x2, aU, aU] [] h (qV (zz ζ) Q) := by
  refine g_iload_n dX11_sortPicked_2 rfl ?_
  refine g_iload_n dX11_sortPicked_3 rfl ?_
  obtain ⟨o1, w⟩ := w
  obtain ⟨o2, w⟩ := w
  refine g_cmp_ge (tgt := 87) dX11_sortPicked_4 rfl o1 o2 ?_
  refine ite_imp (fun w => ?_) (fun w => ?_) w
  · exact g_retV dX11_sortPicked_87 rfl w
  · refine g_aload_n dX11_sortPicked_7 rfl ?_
    refine g_getR dX11_sortPicked_8 fl_X11_48 sh_0 (al_0 hn) (fun _ _ _ => rfl) rf_0_6 ?_
    refine g_iload_n dX11_sortPicked_11 rfl ?_
    obtain ⟨o3, w⟩ := w
    refine g_iald dX11_sortPicked_12 sh_51 (al_51 hn) (Nat.le_of_ble_eq_true rfl) o3 ?_
    refine g_istore_n (ls' := [aP 0, aI x1, aI x2, aI (h 51 x2), aU]) dX11_sortPicked_13 (Nat.le_of_ble_eq_true rfl) rfl rfl ?_
    refine g_iload_n dX11_sortPicked_14 rfl ?_
    refine g_istore (ls' := [aP 0, aI x1, aI x2, aI (h 51 x2), aI x2]) dX11_sortPicked_15 (Nat.le_of_ble_eq_true rfl) rfl rfl ?_
    exact g_sub (ls' := [aP 0, aI x1, aI x2, aI (h 51 x2), aI x2]) ⟨Or.inr rfl, Or.inr rfl, Or.inr rfl, Or.inr rfl, Or.inr rfl, trivial⟩ w
theorem b_X11_sortPicked_17 {l : Launch} {D : Nat} {ζ : ZP} {h : HI} {Q : HI → Prop} {x1 x2 x3 x4 : Int} (hn : 144 ≤ ζ.2.2.2.2) (w : (rg x4) ∧ (if x4 ≤ 0 then ((0 ≤ x4 ∧ x4 < 60) ∧ G l (D + 1) 0 0 mX11_sortPicked (zz ζ) 2 [aP 0, aI x1, aI (x2 + 1), aU, aU] [] (hu h 51 x4 x3) (qV (zz ζ) Q)) else ((0 ≤ (x4 - 1) ∧ (x4 - 1) < 60) ∧ (0 ≤ (h 51 (x4 - 1)) ∧ (h 51 (x4 - 1)) < 60) ∧ (0 ≤ x3 ∧ x3 < 60) ∧ (rg (h 44 (h 51 (x4 - 1)))) ∧ (rg (h 44 x3)) ∧ (if (h 44 (h 51 (x4 - 1))) ≤ (h 44 x3) then ((0 ≤ x4 ∧ x4 < 60) ∧ G l (D + 1) 0 0 mX11_sortPicked (zz ζ) 2 [aP 0, aI x1, aI (x2 + 1), aU, aU] [] (hu h 51 x4 x3) (qV (zz ζ) Q)) else ((0 ≤ x4 ∧ x4 < 60) ∧ G l (D + 1) 0 0 mX11_sortPicked (zz ζ) 17 [aP 0, aI x1, aI x2, aI x3, aI (x4 + (-1))] [] (hu h 51 x4 (h 51 (x4 - 1))) (qV (zz ζ) Q)))))) : G l (D + 1) 0 0 mX11_sortPicked (zz ζ) 17 [aP 0, aI x1, aI x2, aI x3, aI x4] [] h (qV (zz ζ) Q) := by
  refine g_iload dX11_sortPicked_17 rfl ?_
  obtain ⟨o1, w⟩ := w
  refine g_if_le (tgt := 73) dX11_sortPicked_19 rfl o1 ?_
  refine ite_imp (fun w => ?_) (fun w => ?_) w
  · refine g_aload_n dX11_sortPicked_73 rfl ?_
    refine g_getR dX11_sortPicked_74 fl_X11_48 sh_0 (al_0 hn) (fun _ _ _ => rfl) rf_0_6 ?_
    refine g_iload dX11_sortPicked_77 rfl ?_
    refine g_iload_n dX11_sortPicked_79 rfl ?_
    obtain ⟨o2, w⟩ := w
    refine g_iast dX11_sortPicked_80 sh_51 (al_51 hn) (Nat.le_of_ble_eq_true rfl) o2 ?_
    refine g_iinc (ls' := [aP 0, aI x1, aI (x2 + 1), aI x3, aI x4]) dX11_sortPicked_81 rfl (Nat.le_of_ble_eq_true rfl) rfl rfl ?_
    refine g_goto (tgt := 2) dX11_sortPicked_84 rfl ?_
    exact g_sub (ls' := [aP 0, aI x1, aI (x2 + 1), aU, aU]) ⟨Or.inr rfl, Or.inr rfl, Or.inr rfl, Or.inl rfl, Or.inl rfl, trivial⟩ w
  · refine g_aload_n dX11_sortPicked_22 rfl ?_
    refine g_getR dX11_sortPicked_23 fl_X11_44 sh_0 (al_0 hn) (fun _ _ _ => rfl) rf_0_5 ?_
    refine g_getR dX11_sortPicked_26 fl_X11_257 sh_40 (al_40 hn) (fun _ _ _ => rfl) rf_40_4 ?_
    refine g_aload_n dX11_sortPicked_29 rfl ?_
    refine g_getR dX11_sortPicked_30 fl_X11_48 sh_0 (al_0 hn) (fun _ _ _ => rfl) rf_0_6 ?_
    refine g_iload dX11_sortPicked_33 rfl ?_
    refine g_iconst dX11_sortPicked_35 ?_
    refine g_isub dX11_sortPicked_36 ?_
    obtain ⟨o3, w⟩ := w
    refine g_iald dX11_sortPicked_37 sh_51 (al_51 hn) (Nat.le_of_ble_eq_true rfl) o3 ?_
    obtain ⟨o4, w⟩ := w
    refine g_iald dX11_sortPicked_38 sh_44 (al_44 hn) (Nat.le_of_ble_eq_true rfl) o4 ?_
    refine g_aload_n dX11_sortPicked_39 rfl ?_
    refine g_getR dX11_sortPicked_40 fl_X11_44 sh_0 (al_0 hn) (fun _ _ _ => rfl) rf_0_5 ?_
    refine g_getR dX11_sortPicked_43 fl_X11_257 sh_40 (al_40 hn) (fun _ _ _ => rfl) rf_40_4 ?_
    refine g_iload_n dX11_sortPicked_46 rfl ?_
    obtain ⟨o5, w⟩ := w
    refine g_iald dX11_sortPicked_47 sh_44 (al_44 hn) (Nat.le_of_ble_eq_true rfl) o5 ?_
    obtain ⟨o6, w⟩ := w
    obtain ⟨o7, w⟩ := w
    refine g_cmp_le (tgt := 73) dX11_sortPicked_48 rfl o6 o7 ?_
    refine ite_imp (fun w => ?_) (fun w => ?_) w
    · refine g_aload_n dX11_sortPicked_73 rfl ?_
      refine g_getR dX11_sortPicked_74 fl_X11_48 sh_0 (al_0 hn) (fun _ _ _ => rfl) rf_0_6 ?_
      refine g_iload dX11_sortPicked_77 rfl ?_
      refine g_iload_n dX11_sortPicked_79 rfl ?_
      obtain ⟨o8, w⟩ := w
      refine g_iast dX11_sortPicked_80 sh_51 (al_51 hn) (Nat.le_of_ble_eq_true rfl) o8 ?_
      refine g_iinc (ls' := [aP 0, aI x1, aI (x2 + 1), aI x3, aI x4]) dX11_sortPicked_81 rfl (Nat.le_of_ble_eq_true rfl) rfl rfl ?_
      refine g_goto (tgt := 2) dX11_sortPicked_84 rfl ?_
      exact g_sub (ls' := [aP 0, aI x1, aI (x2 + 1), aU, aU]) ⟨Or.inr rfl, Or.inr rfl, Or.inr rfl, Or.inl rfl, Or.inl rfl, trivial⟩ w
    · refine g_aload_n dX11_sortPicked_51 rfl ?_
      refine g_getR dX11_sortPicked_52 fl_X11_48 sh_0 (al_0 hn) (fun _ _ _ => rfl) rf_0_6 ?_
      refine g_iload dX11_sortPicked_55 rfl ?_
      refine g_aload_n dX11_sortPicked_57 rfl ?_
      refine g_getR dX11_sortPicked_58 fl_X11_48 sh_0 (al_0 hn) (fun _ _ _ => rfl) rf_0_6 ?_
      refine g_iload dX11_sortPicked_61 rfl ?_
      refine g_iconst dX11_sortPicked_63 ?_
      refine g_isub dX11_sortPicked_64 ?_
      refine g_iald dX11_sortPicked_65 sh_51 (al_51 hn) (Nat.le_of_ble_eq_true rfl) o3 ?_
      obtain ⟨o9, w⟩ := w
      refine g_iast dX11_sortPicked_66 sh_51 (al_51 hn) (Nat.le_of_ble_eq_true rfl) o9 ?_
      refine g_iinc (ls' := [aP 0, aI x1, aI x2, aI x3, aI (x4 + (-1))]) dX11_sortPicked_67 rfl (Nat.le_of_ble_eq_true rfl) rfl rfl ?_
      refine g_goto (tgt := 17) dX11_sortPicked_70 rfl ?_
      exact g_sub (ls' := [aP 0, aI x1, aI x2, aI x3, aI (x4 + (-1))]) ⟨Or.inr rfl, Or.inr rfl, Or.inr rfl, Or.inr rfl, Or.inr rfl, trivial⟩ w
theorem e_X11_sortPicked {l : Launch} {D : Nat} {ζ : ZP} {h : HI} {Q : HI → Prop} {x1 : Int} (hn : 144 ≤ ζ.2.2.2.2) (w : G l (D + 1) 0 0 mX11_sortPicked (zz ζ) 2 [aP 0, aI x1, aI 1, aU, aU] [] h (qV (zz ζ) Q)) : RtV l (D + 1) mX11_sortPicked (zz ζ) [aP 0, aI x1] h Q := by
  refine RtV.of 3 pn_X11 [aP 0, aI x1, aU, aU, aU] rfl rfl ?_
  refine g_iconst dX11_sortPicked_0 ?_
  refine g_istore_n (ls' := [aP 0, aI x1, aI 1, aU, aU]) dX11_sortPicked_1 (Nat.le_of_ble_eq_true rfl) rfl rfl ?_
  exact g_sub (ls' := [aP 0, aI x1, aI 1, aU, aU]) ⟨Or.inr rfl, Or.inr rfl, Or.inr rfl, Or.inl rfl, Or.inl rfl, trivial⟩ w
theorem e_X11_filled {l : Launch} {D : Nat} {ζ : ZP} {h : HI} {Q : Int → HI → Prop} {x1 x2 : Int} (hn : 144 ≤ ζ.2.2.2.2) (w : RtI l D mX1_holdOf (zz ζ) [aP 10, aI x1, aI x2, aP 40] h (fun r1 h1 => RtI l D mX7_at (zz ζ) [aP 1, aI x2] h1 (fun r2 h2 => (rg (r1 * r2)) ∧ Q ((r1 * r2).tdiv 100) h2))) : RtI l (D + 1) mX11_filled (zz ζ) [aP 0, aI x1, aI x2] h Q := by
  refine RtI.of 0 pn_X11 [aP 0, aI x1, aI x2] rfl rfl ?_
  refine g_aload_n dX11_filled_0 rfl ?_
  refine g_getR dX11_filled_1 fl_X11_19 sh_0 (al_0 hn) (fun _ _ _ => rfl) rf_0_1 ?_
  refine g_getR dX11_filled_4 fl_X11_188 sh_3 (al_3 hn) (fun _ _ _ => rfl) rf_3_2 ?_
  refine g_iload_n dX11_filled_7 rfl ?_
  refine g_iload_n dX11_filled_8 rfl ?_
  refine g_aload_n dX11_filled_9 rfl ?_
  refine g_getR dX11_filled_10 fl_X11_44 sh_0 (al_0 hn) (fun _ _ _ => rfl) rf_0_5 ?_
  refine g_callVI (n := 3) (As := [aI x1, aI x2, aP 40]) (st := []) dX11_filled_13 ml_X11_333 sh_10 rfl (al_10 hn) rfl rfl (Nat.le_of_ble_eq_true rfl) (RtI.mono w (fun r1 h1 w => ?_))
  refine g_aload_n dX11_filled_16 rfl ?_
  refine g_getR dX11_filled_17 fl_X11_10 sh_0 (al_0 hn) (fun _ _ _ => rfl) rf_0_0 ?_
  refine g_iload_n dX11_filled_20 rfl ?_
  refine g_callVI (n := 1) (As := [aI x2]) (st := [aI r1]) dX11_filled_21 ml_X11_305 sh_1 rfl (al_1 hn) rfl rfl (Nat.le_of_ble_eq_true rfl) (RtI.mono w (fun r2 h2 w => ?_))
  refine g_imul dX11_filled_24 ?_
  refine g_bipush dX11_filled_25 rfl ?_
  obtain ⟨o1, w⟩ := w
  refine g_idiv dX11_filled_27 o1 (by decide) (by decide) ?_
  exact g_retI dX11_filled_28 rfl w
theorem b_X11_bleed_16 {l : Launch} {D : Nat} {ζ : ZP} {h : HI} {Q : Int → HI → Prop} {x1 x2 x3 x4 x5 x6 : Int} (hn : 144 ≤ ζ.2.2.2.2) (w : (rg x6) ∧ (rg x2) ∧ (if x2 ≤ x6 then (RtI l D mX11_cut (zz ζ) [aI (((x4 - x3) + (h 7 3)) - 1), aI (h 7 3)] (hu h 0 12 (x5 - (x2 * x3))) (fun r1 h1 => Q r1 h1)) else (RtI l D mX11_filled (zz ζ) [aP 0, aI x1, aI x6] h (fun r2 h2 => (rg x3) ∧ (rg r2) ∧ (rg x4) ∧ G l (D + 1) 0 0 mX11_bleed (zz ζ) 16 [aP 0, aI x1, aI x2, aI (min x3 r2), aI (max x4 r2), aI (x5 + r2), aI (x6 + 1), aU] [] h2 (qI (zz ζ) Q))))) : G l (D + 1) 0 0 mX11_bleed (zz ζ) 16 [aP 0, aI x1, aI x2, aI x3, aI x4, aI x5, aI x6, aU] [] h (qI (zz ζ) Q) := by
  refine g_iload dX11_bleed_16 rfl ?_
  refine g_iload_n dX11_bleed_18 rfl ?_
  obtain ⟨o1, w⟩ := w
  obtain ⟨o2, w⟩ := w
  refine g_cmp_ge (tgt := 60) dX11_bleed_19 rfl o1 o2 ?_
  refine ite_imp (fun w => ?_) (fun w => ?_) w
  · refine g_aload_n dX11_bleed_60 rfl ?_
    refine g_iload dX11_bleed_61 rfl ?_
    refine g_iload_n dX11_bleed_63 rfl ?_
    refine g_iload_n dX11_bleed_64 rfl ?_
    refine g_imul dX11_bleed_65 ?_
    refine g_isub dX11_bleed_66 ?_
    refine g_putI (J := 12) dX11_bleed_67 fl_X11_80 sh_0 (al_0 hn) rfl rfl ?_
    refine g_aload_n dX11_bleed_70 rfl ?_
    refine g_getR dX11_bleed_71 fl_X11_19 sh_0 (al_0 hn) (fun _ _ _ => rfl) rf_0_1 ?_
    refine g_getR dX11_bleed_74 fl_X11_128 sh_3 (al_3 hn) (fun _ _ _ => rfl) rf_3_0 ?_
    refine g_getR dX11_bleed_77 fl_X11_225 sh_4 (al_4 hn) (fun _ _ _ => rfl) rf_4_2 ?_
    refine g_iconst dX11_bleed_80 ?_
    refine g_iald dX11_bleed_81 sh_7 (al_7 hn) (Nat.le_of_ble_eq_true rfl) (by decide) ?_
    refine g_istore (ls' := [aP 0, aI x1, aI x2, aI x3, aI x4, aI x5, aI (h 7 3), aU]) dX11_bleed_82 (Nat.le_of_ble_eq_true rfl) rfl rfl ?_
    refine g_iload dX11_bleed_84 rfl ?_
    refine g_iload_n dX11_bleed_86 rfl ?_
    refine g_isub dX11_bleed_87 ?_
    refine g_iload dX11_bleed_88 rfl ?_
    refine g_iadd dX11_bleed_90 ?_
    refine g_iconst dX11_bleed_91 ?_
    refine g_isub dX11_bleed_92 ?_
    refine g_iload dX11_bleed_93 rfl ?_
    refine g_callSI (n := 2) (As := [aI (((x4 - x3) + (h 7 3)) - 1), aI (h 7 3)]) (st := []) dX11_bleed_95 ml_X11_219 rfl rfl (Nat.le_of_ble_eq_true rfl) rfl (RtI.mono w (fun r1 h1 w => ?_))
    exact g_retI dX11_bleed_98 rfl w
  · refine g_aload_n dX11_bleed_22 rfl ?_
    refine g_iload_n dX11_bleed_23 rfl ?_
    refine g_iload dX11_bleed_24 rfl ?_
    refine g_callVI (n := 2) (As := [aI x1, aI x6]) (st := []) dX11_bleed_26 ml_X11_406 sh_0 rfl (al_0 hn) rfl rfl (Nat.le_of_ble_eq_true rfl) (RtI.mono w (fun r2 h2 w => ?_))
    refine g_istore (ls' := [aP 0, aI x1, aI x2, aI x3, aI x4, aI x5, aI x6, aI r2]) dX11_bleed_29 (Nat.le_of_ble_eq_true rfl) rfl rfl ?_
    refine g_iload_n dX11_bleed_31 rfl ?_
    refine g_iload dX11_bleed_32 rfl ?_
    obtain ⟨o3, w⟩ := w
    obtain ⟨o4, w⟩ := w
    refine g_min dX11_bleed_34 mm_X11_409 (Nat.le_of_ble_eq_true rfl) o3 o4 ?_
    refine g_istore_n (ls' := [aP 0, aI x1, aI x2, aI (min x3 r2), aI x4, aI x5, aI x6, aI r2]) dX11_bleed_37 (Nat.le_of_ble_eq_true rfl) rfl rfl ?_
    refine g_iload dX11_bleed_38 rfl ?_
    refine g_iload dX11_bleed_40 rfl ?_
    obtain ⟨o5, w⟩ := w
    refine g_max dX11_bleed_42 mm_X11_414 (Nat.le_of_ble_eq_true rfl) o5 o4 ?_
    refine g_istore (ls' := [aP 0, aI x1, aI x2, aI (min x3 r2), aI (max x4 r2), aI x5, aI x6, aI r2]) dX11_bleed_45 (Nat.le_of_ble_eq_true rfl) rfl rfl ?_
    refine g_iload dX11_bleed_47 rfl ?_
    refine g_iload dX11_bleed_49 rfl ?_
    refine g_iadd dX11_bleed_51 ?_
    refine g_istore (ls' := [aP 0, aI x1, aI x2, aI (min x3 r2), aI (max x4 r2), aI (x5 + r2), aI x6, aI r2]) dX11_bleed_52 (Nat.le_of_ble_eq_true rfl) rfl rfl ?_
    refine g_iinc (ls' := [aP 0, aI x1, aI x2, aI (min x3 r2), aI (max x4 r2), aI (x5 + r2), aI (x6 + 1), aI r2]) dX11_bleed_54 rfl (Nat.le_of_ble_eq_true rfl) rfl rfl ?_
    refine g_goto (tgt := 16) dX11_bleed_57 rfl ?_
    exact g_sub (ls' := [aP 0, aI x1, aI x2, aI (min x3 r2), aI (max x4 r2), aI (x5 + r2), aI (x6 + 1), aU]) ⟨Or.inr rfl, Or.inr rfl, Or.inr rfl, Or.inr rfl, Or.inr rfl, Or.inr rfl, Or.inr rfl, Or.inl rfl, trivial⟩ w
theorem e_X11_bleed {l : Launch} {D : Nat} {ζ : ZP} {h : HI} {Q : Int → HI → Prop} {x1 x2 : Int} (hn : 144 ≤ ζ.2.2.2.2) (w : RtI l D mX11_filled (zz ζ) [aP 0, aI x1, aI 0] h (fun r1 h1 => G l (D + 1) 0 0 mX11_bleed (zz ζ) 16 [aP 0, aI x1, aI x2, aI r1, aI r1, aI 0, aI 0, aU] [] h1 (qI (zz ζ) Q))) : RtI l (D + 1) mX11_bleed (zz ζ) [aP 0, aI x1, aI x2] h Q := by
  refine RtI.of 5 pn_X11 [aP 0, aI x1, aI x2, aU, aU, aU, aU, aU] rfl rfl ?_
  refine g_aload_n dX11_bleed_0 rfl ?_
  refine g_iload_n dX11_bleed_1 rfl ?_
  refine g_iconst dX11_bleed_2 ?_
  refine g_callVI (n := 2) (As := [aI x1, aI 0]) (st := []) dX11_bleed_3 ml_X11_406 sh_0 rfl (al_0 hn) rfl rfl (Nat.le_of_ble_eq_true rfl) (RtI.mono w (fun r1 h1 w => ?_))
  refine g_istore_n (ls' := [aP 0, aI x1, aI x2, aI r1, aU, aU, aU, aU]) dX11_bleed_6 (Nat.le_of_ble_eq_true rfl) rfl rfl ?_
  refine g_iload_n dX11_bleed_7 rfl ?_
  refine g_istore (ls' := [aP 0, aI x1, aI x2, aI r1, aI r1, aU, aU, aU]) dX11_bleed_8 (Nat.le_of_ble_eq_true rfl) rfl rfl ?_
  refine g_iconst dX11_bleed_10 ?_
  refine g_istore (ls' := [aP 0, aI x1, aI x2, aI r1, aI r1, aI 0, aU, aU]) dX11_bleed_11 (Nat.le_of_ble_eq_true rfl) rfl rfl ?_
  refine g_iconst dX11_bleed_13 ?_
  refine g_istore (ls' := [aP 0, aI x1, aI x2, aI r1, aI r1, aI 0, aI 0, aU]) dX11_bleed_14 (Nat.le_of_ble_eq_true rfl) rfl rfl ?_
  exact g_sub (ls' := [aP 0, aI x1, aI x2, aI r1, aI r1, aI 0, aI 0, aU]) ⟨Or.inr rfl, Or.inr rfl, Or.inr rfl, Or.inr rfl, Or.inr rfl, Or.inr rfl, Or.inr rfl, Or.inl rfl, trivial⟩ w
