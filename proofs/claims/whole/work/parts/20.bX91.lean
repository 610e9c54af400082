theorem b_X10_readFrom_21 {l : Launch} {D : Nat} {ζ : ZP} {h : HI} {Q : Int → HI → Prop} {x2 : Int} {wc : Nat} (hn : 144 ≤ ζ.2.2.2.2) (hw : isW wc) (w : (rg x2) ∧ (if x2 ≤ 0 then (Q 1 h) else ((rg (h 1 4)) ∧ (if (h 1 4) = 0 then (Q 1 h) else (RtI l D mX10_readStrip (zz ζ) [aP wc, aP 1] h (fun r1 h1 => (rg r1) ∧ (if ¬ r1 = 0 then (G l (D + 1) 0 0 mX10_readFrom (zz ζ) 21 [aP wc, aP 1, aI (x2 + (-1))] [] (hu h1 wc 0 ((h1 wc 0) + 1)) (qI (zz ζ) Q)) else (Q 0 h1)))))))) : G l (D + 1) 0 0 mX10_readFrom (zz ζ) 21 [aP wc, aP 1, aI x2] [] h (qI (zz ζ) Q) := by
  refine g_iload_n dX10_readFrom_21 rfl ?_
  obtain ⟨o1, w⟩ := w
  refine g_if_le (tgt := 58) dX10_readFrom_22 rfl o1 ?_
  refine ite_imp (fun w => ?_) (fun w => ?_) w
  · refine g_iconst dX10_readFrom_58 ?_
    exact g_retZ dX10_readFrom_59 rfl (Or.inr rfl) w
  · refine g_aload_n dX10_readFrom_25 rfl ?_
    refine g_getI (J := 4) dX10_readFrom_26 fl_X10_46 sh_1 (al_1 hn) (fun _ _ _ => rfl) rfl ?_
    obtain ⟨o2, w⟩ := w
    refine g_if_eq (tgt := 58) dX10_readFrom_29 rfl o2 ?_
    refine ite_imp (fun w => ?_) (fun w => ?_) w
    · refine g_iconst dX10_readFrom_58 ?_
      exact g_retZ dX10_readFrom_59 rfl (Or.inr rfl) w
    · refine g_aload_n dX10_readFrom_32 rfl ?_
      refine g_aload_n dX10_readFrom_33 rfl ?_
      refine g_callVI (n := 1) (As := [aP 1]) (st := []) dX10_readFrom_34 ml_X10_49 (shw_0 hw) rfl (alw_0 hw hn) rfl rfl (Nat.le_of_ble_eq_true rfl) (RtI.mono w (fun r1 h1 w => ?_))
      obtain ⟨o3, w⟩ := w
      refine g_if_ne (tgt := 42) dX10_readFrom_37 rfl o3 ?_
      refine ite_imp (fun w => ?_) (fun w => ?_) w
      · refine g_aload_n dX10_readFrom_42 rfl ?_
        refine g_dup dX10_readFrom_43 rfl ?_
        refine g_getI (J := 0) dX10_readFrom_44 fl_X10_33 (shw_0 hw) (alw_0 hw hn) (fun _ _ _ => rfl) rfl ?_
        refine g_iconst dX10_readFrom_47 ?_
        refine g_iadd dX10_readFrom_48 ?_
        refine g_putI (J := 0) dX10_readFrom_49 fl_X10_33 (shw_0 hw) (alw_0 hw hn) rfl rfl ?_
        refine g_iinc (ls' := [aP wc, aP 1, aI (x2 + (-1))]) dX10_readFrom_52 rfl (Nat.le_of_ble_eq_true rfl) rfl rfl ?_
        refine g_goto (tgt := 21) dX10_readFrom_55 rfl ?_
        exact g_sub (ls' := [aP wc, aP 1, aI (x2 + (-1))]) ⟨Or.inr rfl, Or.inr rfl, Or.inr rfl, trivial⟩ w
      · refine g_iconst dX10_readFrom_40 ?_
        exact g_retZ dX10_readFrom_41 rfl (Or.inl rfl) w
theorem e_X10_readFrom {l : Launch} {D : Nat} {ζ : ZP} {h : HI} {Q : Int → HI → Prop} {wc : Nat} (hn : 144 ≤ ζ.2.2.2.2) (hw : isW wc) (w : RtV l D mX7_begin (zz ζ) [aP 1, aI 400] (hu (hu h wc 0 0) wc 4 0) (fun h1 => G l (D + 1) 0 0 mX10_readFrom (zz ζ) 21 [aP wc, aP 1, aI 540] [] h1 (qI (zz ζ) Q))) : RtI l (D + 1) mX10_readFrom (zz ζ) [aP wc, aP 1] h Q := by
  refine RtI.of 1 pn_X10 [aP wc, aP 1, aU] rfl rfl ?_
  refine g_aload_n dX10_readFrom_0 rfl ?_
  refine g_iconst dX10_readFrom_1 ?_
  refine g_putI (J := 0) dX10_readFrom_2 fl_X10_33 (shw_0 hw) (alw_0 hw hn) rfl rfl ?_
  refine g_aload_n dX10_readFrom_5 rfl ?_
  refine g_iconst dX10_readFrom_6 ?_
  refine g_putI (J := 4) dX10_readFrom_7 fl_X10_37 (shw_0 hw) (alw_0 hw hn) rfl rfl ?_
  refine g_aload_n dX10_readFrom_10 rfl ?_
  refine g_sipush dX10_readFrom_11 rfl ?_
  refine g_callVV (n := 1) (As := [aI 400]) (st := []) dX10_readFrom_14 ml_X10_40 sh_1 rfl (al_1 hn) rfl rfl (Nat.le_of_ble_eq_true rfl) (RtV.mono w (fun h1 w => ?_))
  refine g_sipush dX10_readFrom_17 rfl ?_
  refine g_istore_n (ls' := [aP wc, aP 1, aI 540]) dX10_readFrom_20 (Nat.le_of_ble_eq_true rfl) rfl rfl ?_
  exact g_sub (ls' := [aP wc, aP 1, aI 540]) ⟨Or.inr rfl, Or.inr rfl, Or.inr rfl, trivial⟩ w
theorem e_X10_readStrip {l : Launch} {D : Nat} {ζ : ZP} {h : HI} {Q : Int → HI → Prop} {wc : Nat} (hn : 144 ≤ ζ.2.2.2.2) (hw : isW wc) (w : (rg (h 1 7)) ∧ (if (h 1 7) = 20 then ((rg (h wc 0)) ∧ (if (h wc 0) < 12 then (RtV l D mX7_step (zz ζ) [aP 1] h (fun h1 => RtI l D mX7_isName (zz ζ) [aP 1] h1 (fun r2 h2 => (rg r2) ∧ (if ¬ r2 = 0 then (RtI l D mX10_named (zz ζ) [aP wc, aI (h2 1 6)] h2 (fun r3 h3 => (rg r3) ∧ (if r3 = (-1) then ((0 ≤ (h3 wc 0) ∧ (h3 wc 0) < 12) ∧ RtV l D mX7_step (zz ζ) [aP 1] (hu h3 (wc + 7) (h3 wc 0) (h3 1 6)) (fun h4 => RtI l D mX10_readEnds (zz ζ) [aP wc, aP 1] h4 (fun r5 h5 => (rg r5) ∧ (if r5 = 0 then (Q 0 h5) else (RtI l D mX10_readAfters (zz ζ) [aP wc, aP 1] h5 (fun r6 h6 => (rg r6) ∧ (if r6 = 0 then (Q 0 h6) else (RtI l D mX10_readNears (zz ζ) [aP wc, aP 1] h6 (fun r7 h7 => (rg r7) ∧ (if r7 = 0 then (Q 0 h7) else (RtI l D mX7_takeSign (zz ζ) [aP 1, aI 59] h7 (fun r8 h8 => (rg r8) ∧ (if r8 = 0 then (Q 0 h8) else (Q 1 h8)))))))))))))) else (RtI l D mX7_refuse (zz ζ) [aP 1, aI 3] h3 (fun r9 h9 => (r9 = 0 ∨ r9 = 1) ∧ Q r9 h9))))) else (RtI l D mX7_refuse (zz ζ) [aP 1, aI 1] h2 (fun r10 h10 => (r10 = 0 ∨ r10 = 1) ∧ Q r10 h10)))))) else (RtI l D mX7_refuse (zz ζ) [aP 1, aI 4] h (fun r11 h11 => (r11 = 0 ∨ r11 = 1) ∧ Q r11 h11)))) else (RtI l D mX7_refuse (zz ζ) [aP 1, aI 1] h (fun r12 h12 => (r12 = 0 ∨ r12 = 1) ∧ Q r12 h12)))) : RtI l (D + 1) mX10_readStrip (zz ζ) [aP wc, aP 1] h Q := by
  refine RtI.of 0 pn_X10 [aP wc, aP 1] rfl rfl ?_
  refine g_aload_n dX10_readStrip_0 rfl ?_
  refine g_getI (J := 7) dX10_readStrip_1 fl_X10_53 sh_1 (al_1 hn) (fun _ _ _ => rfl) rfl ?_
  refine g_bipush dX10_readStrip_4 rfl ?_
  obtain ⟨o1, w⟩ := w
  refine g_cmp_eq (tgt := 15) dX10_readStrip_6 rfl o1 (by decide) ?_
  refine ite_imp (fun w => ?_) (fun w => ?_) w
  · refine g_aload_n dX10_readStrip_15 rfl ?_
    refine g_getI (J := 0) dX10_readStrip_16 fl_X10_33 (shw_0 hw) (alw_0 hw hn) (fun _ _ _ => rfl) rfl ?_
    refine g_bipush dX10_readStrip_19 rfl ?_
    obtain ⟨o2, w⟩ := w
    refine g_cmp_lt (tgt := 30) dX10_readStrip_21 rfl o2 (by decide) ?_
    refine ite_imp (fun w => ?_) (fun w => ?_) w
    · refine g_aload_n dX10_readStrip_30 rfl ?_
      refine g_callVV (n := 0) (As := []) (st := []) dX10_readStrip_31 ml_X10_60 sh_1 rfl (al_1 hn) rfl rfl (Nat.le_of_ble_eq_true rfl) (RtV.mono w (fun h1 w => ?_))
      refine g_aload_n dX10_readStrip_34 rfl ?_
      refine g_callVI (n := 0) (As := []) (st := []) dX10_readStrip_35 ml_X10_63 sh_1 rfl (al_1 hn) rfl rfl (Nat.le_of_ble_eq_true rfl) (RtI.mono w (fun r2 h2 w => ?_))
      obtain ⟨o3, w⟩ := w
      refine g_if_ne (tgt := 47) dX10_readStrip_38 rfl o3 ?_
      refine ite_imp (fun w => ?_) (fun w => ?_) w
      · refine g_aload_n dX10_readStrip_47 rfl ?_
        refine g_aload_n dX10_readStrip_48 rfl ?_
        refine g_getI (J := 6) dX10_readStrip_49 fl_X10_67 sh_1 (al_1 hn) (fun _ _ _ => rfl) rfl ?_
        refine g_callVI (n := 1) (As := [aI (h2 1 6)]) (st := []) dX10_readStrip_52 ml_X10_70 (shw_0 hw) rfl (alw_0 hw hn) rfl rfl (Nat.le_of_ble_eq_true rfl) (RtI.mono w (fun r3 h3 w => ?_))
        refine g_iconst dX10_readStrip_55 ?_
        obtain ⟨o4, w⟩ := w
        refine g_cmp_eq (tgt := 65) dX10_readStrip_56 rfl o4 (by decide) ?_
        refine ite_imp (fun w => ?_) (fun w => ?_) w
        · refine g_aload_n dX10_readStrip_65 rfl ?_
          refine g_getR dX10_readStrip_66 fl_X10_30 (shw_0 hw) (alw_0 hw hn) (fun _ _ _ => rfl) (rfw_8 hw) ?_
          refine g_aload_n dX10_readStrip_69 rfl ?_
          refine g_getI (J := 0) dX10_readStrip_70 fl_X10_33 (shw_0 hw) (alw_0 hw hn) (fun _ _ _ => rfl) rfl ?_
          refine g_aload_n dX10_readStrip_73 rfl ?_
          refine g_getI (J := 6) dX10_readStrip_74 fl_X10_67 sh_1 (al_1 hn) (fun _ _ _ => rfl) rfl ?_
          obtain ⟨o5, w⟩ := w
          refine g_iast dX10_readStrip_77 (shw_7 hw) (alw_7 hw hn) (Nat.le_of_ble_eq_true rfl) o5 ?_
          refine g_aload_n dX10_readStrip_78 rfl ?_
          refine g_callVV (n := 0) (As := []) (st := []) dX10_readStrip_79 ml_X10_60 sh_1 rfl (al_1 hn) rfl rfl (Nat.le_of_ble_eq_true rfl) (RtV.mono w (fun h4 w => ?_))
          refine g_aload_n dX10_readStrip_82 rfl ?_
          refine g_aload_n dX10_readStrip_83 rfl ?_
          refine g_callVI (n := 1) (As := [aP 1]) (st := []) dX10_readStrip_84 ml_X10_74 (shw_0 hw) rfl (alw_0 hw hn) rfl rfl (Nat.le_of_ble_eq_true rfl) (RtI.mono w (fun r5 h5 w => ?_))
          obtain ⟨o6, w⟩ := w
          refine g_if_eq (tgt := 119) dX10_readStrip_87 rfl o6 ?_
          refine ite_imp (fun w => ?_) (fun w => ?_) w
          · refine g_iconst dX10_readStrip_119 ?_
            exact g_retZ dX10_readStrip_120 rfl (Or.inl rfl) w
          · refine g_aload_n dX10_readStrip_90 rfl ?_
            refine g_aload_n dX10_readStrip_91 rfl ?_
            refine g_callVI (n := 1) (As := [aP 1]) (st := []) dX10_readStrip_92 ml_X10_77 (shw_0 hw) rfl (alw_0 hw hn) rfl rfl (Nat.le_of_ble_eq_true rfl) (RtI.mono w (fun r6 h6 w => ?_))
            obtain ⟨o7, w⟩ := w
            refine g_if_eq (tgt := 119) dX10_readStrip_95 rfl o7 ?_
            refine ite_imp (fun w => ?_) (fun w => ?_) w
            · refine g_iconst dX10_readStrip_119 ?_
              exact g_retZ dX10_readStrip_120 rfl (Or.inl rfl) w
            · refine g_aload_n dX10_readStrip_98 rfl ?_
              refine g_aload_n dX10_readStrip_99 rfl ?_
              refine g_callVI (n := 1) (As := [aP 1]) (st := []) dX10_readStrip_100 ml_X10_80 (shw_0 hw) rfl (alw_0 hw hn) rfl rfl (Nat.le_of_ble_eq_true rfl) (RtI.mono w (fun r7 h7 w => ?_))
              obtain ⟨o8, w⟩ := w
              refine g_if_eq (tgt := 119) dX10_readStrip_103 rfl o8 ?_
              refine ite_imp (fun w => ?_) (fun w => ?_) w
              · refine g_iconst dX10_readStrip_119 ?_
                exact g_retZ dX10_readStrip_120 rfl (Or.inl rfl) w
              · refine g_aload_n dX10_readStrip_106 rfl ?_
                refine g_bipush dX10_readStrip_107 rfl ?_
                refine g_callVI (n := 1) (As := [aI 59]) (st := []) dX10_readStrip_109 ml_X10_83 sh_1 rfl (al_1 hn) rfl rfl (Nat.le_of_ble_eq_true rfl) (RtI.mono w (fun r8 h8 w => ?_))
                obtain ⟨o9, w⟩ := w
                refine g_if_eq (tgt := 119) dX10_readStrip_112 rfl o9 ?_
                refine ite_imp (fun w => ?_) (fun w => ?_) w
                · refine g_iconst dX10_readStrip_119 ?_
                  exact g_retZ dX10_readStrip_120 rfl (Or.inl rfl) w
                · refine g_iconst dX10_readStrip_115 ?_
                  refine g_goto (tgt := 120) dX10_readStrip_116 rfl ?_
                  exact g_retZ dX10_readStrip_120 rfl (Or.inr rfl) w
        · refine g_aload_n dX10_readStrip_59 rfl ?_
          refine g_iconst dX10_readStrip_60 ?_
          refine g_callVI (n := 1) (As := [aI 3]) (st := []) dX10_readStrip_61 ml_X10_56 sh_1 rfl (al_1 hn) rfl rfl (Nat.le_of_ble_eq_true rfl) (RtI.mono w (fun r9 h9 w => ?_))
          obtain ⟨o10, w⟩ := w
          exact g_retZ dX10_readStrip_64 rfl o10 w
      · refine g_aload_n dX10_readStrip_41 rfl ?_
        refine g_iconst dX10_readStrip_42 ?_
        refine g_callVI (n := 1) (As := [aI 1]) (st := []) dX10_readStrip_43 ml_X10_56 sh_1 rfl (al_1 hn) rfl rfl (Nat.le_of_ble_eq_true rfl) (RtI.mono w (fun r10 h10 w => ?_))
        obtain ⟨o11, w⟩ := w
        exact g_retZ dX10_readStrip_46 rfl o11 w
    · refine g_aload_n dX10_readStrip_24 rfl ?_
      refine g_iconst dX10_readStrip_25 ?_
      refine g_callVI (n := 1) (As := [aI 4]) (st := []) dX10_readStrip_26 ml_X10_56 sh_1 rfl (al_1 hn) rfl rfl (Nat.le_of_ble_eq_true rfl) (RtI.mono w (fun r11 h11 w => ?_))
      obtain ⟨o12, w⟩ := w
      exact g_retZ dX10_readStrip_29 rfl o12 w
  · refine g_aload_n dX10_readStrip_9 rfl ?_
    refine g_iconst dX10_readStrip_10 ?_
    refine g_callVI (n := 1) (As := [aI 1]) (st := []) dX10_readStrip_11 ml_X10_56 sh_1 rfl (al_1 hn) rfl rfl (Nat.le_of_ble_eq_true rfl) (RtI.mono w (fun r12 h12 w => ?_))
    obtain ⟨o13, w⟩ := w
    exact g_retZ dX10_readStrip_14 rfl o13 w
theorem b_X10_named_2 {l : Launch} {D : Nat} {ζ : ZP} {h : HI} {Q : Int → HI → Prop} {x1 x2 : Int} {wc : Nat} (hn : 144 ≤ ζ.2.2.2.2) (hw : isW wc) (w : (rg x2) ∧ (rg (h wc 0)) ∧ (if (h wc 0) ≤ x2 then (Q (-1) h) else ((0 ≤ x2 ∧ x2 < 12) ∧ (rg (h (wc + 7) x2)) ∧ (rg x1) ∧ (if ¬ (h (wc + 7) x2) = x1 then (G l (D + 1) 0 0 mX10_named (zz ζ) 2 [aP wc, aI x1, aI (x2 + 1)] [] h (qI (zz ζ) Q)) else (Q x2 h))))) : G l (D + 1) 0 0 mX10_named (zz ζ) 2 [aP wc, aI x1, aI x2] [] h (qI (zz ζ) Q) := by
  refine g_iload_n dX10_named_2 rfl ?_
  refine g_aload_n dX10_named_3 rfl ?_
  refine g_getI (J := 0) dX10_named_4 fl_X10_33 (shw_0 hw) (alw_0 hw hn) (fun _ _ _ => rfl) rfl ?_
  obtain ⟨o1, w⟩ := w
  obtain ⟨o2, w⟩ := w
  refine g_cmp_ge (tgt := 28) dX10_named_7 rfl o1 o2 ?_
  refine ite_imp (fun w => ?_) (fun w => ?_) w
  · refine g_iconst dX10_named_28 ?_
    exact g_retI dX10_named_29 rfl w
  · refine g_aload_n dX10_named_10 rfl ?_
    refine g_getR dX10_named_11 fl_X10_30 (shw_0 hw) (alw_0 hw hn) (fun _ _ _ => rfl) (rfw_8 hw) ?_
    refine g_iload_n dX10_named_14 rfl ?_
    obtain ⟨o3, w⟩ := w
    refine g_iald dX10_named_15 (shw_7 hw) (alw_7 hw hn) (Nat.le_of_ble_eq_true rfl) o3 ?_
    refine g_iload_n dX10_named_16 rfl ?_
    obtain ⟨o4, w⟩ := w
    obtain ⟨o5, w⟩ := w
    refine g_cmp_ne (tgt := 22) dX10_named_17 rfl o4 o5 ?_
    refine ite_imp (fun w => ?_) (fun w => ?_) w
    · refine g_iinc (ls' := [aP wc, aI x1, aI (x2 + 1)]) dX10_named_22 rfl (Nat.le_of_ble_eq_true rfl) rfl rfl ?_
      refine g_goto (tgt := 2) dX10_named_25 rfl ?_
      exact g_sub (ls' := [aP wc, aI x1, aI (x2 + 1)]) ⟨Or.inr rfl, Or.inr rfl, Or.inr rfl, trivial⟩ w
    · refine g_iload_n dX10_named_20 rfl ?_
      exact g_retI dX10_named_21 rfl w
theorem e_X10_named {l : Launch} {D : Nat} {ζ : ZP} {h : HI} {Q : Int → HI → Prop} {x1 : Int} {wc : Nat} (hn : 144 ≤ ζ.2.2.2.2) (hw : isW wc) (w : G l (D + 1) 0 0 mX10_named (zz ζ) 2 [aP wc, aI x1, aI 0] [] h (qI (zz ζ) Q)) : RtI l (D + 1) mX10_named (zz ζ) [aP wc, aI x1] h Q := by
  refine RtI.of 1 pn_X10 [aP wc, aI x1, aU] rfl rfl ?_
  refine g_iconst dX10_named_0 ?_
  refine g_istore_n (ls' := [aP wc, aI x1, aI 0]) dX10_named_1 (Nat.le_of_ble_eq_true rfl) rfl rfl ?_
  exact g_sub (ls' := [aP wc, aI x1, aI 0]) ⟨Or.inr rfl, Or.inr rfl, Or.inr rfl, trivial⟩ w
theorem e_X10_readNode {l : Launch} {D : Nat} {ζ : ZP} {h : HI} {Q : Int → HI → Prop} {wc : Nat} (hn : 144 ≤ ζ.2.2.2.2) (hw : isW wc) (w : RtI l D mX7_isNumber (zz ζ) [aP 1, aI 0, aI 59] h (fun r1 h1 => (rg r1) ∧ (if ¬ r1 = 0 then (RtV l D mX7_step (zz ζ) [aP 1] (hu h1 wc 9 (2 * (h1 1 6))) (fun h2 => (rg (h2 1 4)) ∧ (if (h2 1 4) = 43 then (if ¬ (h2 1 4) = 43 then (RtV l D mX7_step (zz ζ) [aP 1] (hu h2 wc 9 ((h2 wc 9) + 0)) (fun h3 => Q 1 h3)) else (RtV l D mX7_step (zz ζ) [aP 1] (hu h2 wc 9 ((h2 wc 9) + 1)) (fun h4 => Q 1 h4))) else (if (h2 1 4) = 45 then (if ¬ (h2 1 4) = 43 then (RtV l D mX7_step (zz ζ) [aP 1] (hu h2 wc 9 ((h2 wc 9) + 0)) (fun h5 => Q 1 h5)) else (RtV l D mX7_step (zz ζ) [aP 1] (hu h2 wc 9 ((h2 wc 9) + 1)) (fun h6 => Q 1 h6))) else (RtI l D mX7_refuse (zz ζ) [aP 1, aI 1] h2 (fun r7 h7 => (r7 = 0 ∨ r7 = 1) ∧ Q r7 h7)))))) else (Q 0 h1)))) : RtI l (D + 1) mX10_readNode (zz ζ) [aP wc, aP 1] h Q := by
  refine RtI.of 0 pn_X10 [aP wc, aP 1] rfl rfl ?_
  refine g_aload_n dX10_readNode_0 rfl ?_
  refine g_iconst dX10_readNode_1 ?_
  refine g_bipush dX10_readNode_2 rfl ?_
  refine g_callVI (n := 2) (As := [aI 0, aI 59]) (st := []) dX10_readNode_4 ml_X10_86 sh_1 rfl (al_1 hn) rfl rfl (Nat.le_of_ble_eq_true rfl) (RtI.mono w (fun r1 h1 w => ?_))
  obtain ⟨o1, w⟩ := w
  refine g_if_ne (tgt := 12) dX10_readNode_7 rfl o1 ?_
  refine ite_imp (fun w => ?_) (fun w => ?_) w
  · refine g_aload_n dX10_readNode_12 rfl ?_
    refine g_iconst dX10_readNode_13 ?_
    refine g_aload_n dX10_readNode_14 rfl ?_
    refine g_getI (J := 6) dX10_readNode_15 fl_X10_67 sh_1 (al_1 hn) (fun _ _ _ => rfl) rfl ?_
    refine g_imul dX10_readNode_18 ?_
    refine g_putI (J := 9) dX10_readNode_19 fl_X10_90 (shw_0 hw) (alw_0 hw hn) rfl rfl ?_
    refine g_aload_n dX10_readNode_22 rfl ?_
    refine g_callVV (n := 0) (As := []) (st := []) dX10_readNode_23 ml_X10_60 sh_1 rfl (al_1 hn) rfl rfl (Nat.le_of_ble_eq_true rfl) (RtV.mono w (fun h2 w => ?_))
    refine g_aload_n dX10_readNode_26 rfl ?_
    refine g_getI (J := 4) dX10_readNode_27 fl_X10_46 sh_1 (al_1 hn) (fun _ _ _ => rfl) rfl ?_
    refine g_bipush dX10_readNode_30 rfl ?_
    obtain ⟨o2, w⟩ := w
    refine g_cmp_eq (tgt := 50) dX10_readNode_32 rfl o2 (by decide) ?_
    refine ite_imp (fun w => ?_) (fun w => ?_) w
    · refine g_aload_n dX10_readNode_50 rfl ?_
      refine g_dup dX10_readNode_51 rfl ?_
      refine g_getI (J := 9) dX10_readNode_52 fl_X10_90 (shw_0 hw) (alw_0 hw hn) (fun _ _ _ => rfl) rfl ?_
      refine g_aload_n dX10_readNode_55 rfl ?_
      refine g_getI (J := 4) dX10_readNode_56 fl_X10_46 sh_1 (al_1 hn) (fun _ _ _ => rfl) rfl ?_
      refine g_bipush dX10_readNode_59 rfl ?_
      refine g_cmp_ne (tgt := 68) dX10_readNode_61 rfl o2 (by decide) ?_
      refine ite_imp (fun w => ?_) (fun w => ?_) w
      · refine g_iconst dX10_readNode_68 ?_
        refine g_iadd dX10_readNode_69 ?_
        refine g_putI (J := 9) dX10_readNode_70 fl_X10_90 (shw_0 hw) (alw_0 hw hn) rfl rfl ?_
        refine g_aload_n dX10_readNode_73 rfl ?_
        refine g_callVV (n := 0) (As := []) (st := []) dX10_readNode_74 ml_X10_60 sh_1 rfl (al_1 hn) rfl rfl (Nat.le_of_ble_eq_true rfl) (RtV.mono w (fun h3 w => ?_))
        refine g_iconst dX10_readNode_77 ?_
        exact g_retZ dX10_readNode_78 rfl (Or.inr rfl) w
      · refine g_iconst dX10_readNode_64 ?_
        refine g_goto (tgt := 69) dX10_readNode_65 rfl ?_
        refine g_iadd dX10_readNode_69 ?_
        refine g_putI (J := 9) dX10_readNode_70 fl_X10_90 (shw_0 hw) (alw_0 hw hn) rfl rfl ?_
        refine g_aload_n dX10_readNode_73 rfl ?_
        refine g_callVV (n := 0) (As := []) (st := []) dX10_readNode_74 ml_X10_60 sh_1 rfl (al_1 hn) rfl rfl (Nat.le_of_ble_eq_true rfl) (RtV.mono w (fun h4 w => ?_))
        refine g_iconst dX10_readNode_77 ?_
        exact g_retZ dX10_readNode_78 rfl (Or.inr rfl) w
    · refine g_aload_n dX10_readNode_35 rfl ?_
      refine g_getI (J := 4) dX10_readNode_36 fl_X10_46 sh_1 (al_1 hn) (fun _ _ _ => rfl) rfl ?_
      refine g_bipush dX10_readNode_39 rfl ?_
      refine g_cmp_eq (tgt := 50) dX10_readNode_41 rfl o2 (by decide) ?_
      refine ite_imp (fun w => ?_) (fun w => ?_) w
      · refine g_aload_n dX10_readNode_50 rfl ?_
        refine g_dup dX10_readNode_51 rfl ?_
        refine g_getI (J := 9) dX10_readNode_52 fl_X10_90 (shw_0 hw) (alw_0 hw hn) (fun _ _ _ => rfl) rfl ?_
        refine g_aload_n dX10_readNode_55 rfl ?_
        refine g_getI (J := 4) dX10_readNode_56 fl_X10_46 sh_1 (al_1 hn) (fun _ _ _ => rfl) rfl ?_
        refine g_bipush dX10_readNode_59 rfl ?_
        refine g_cmp_ne (tgt := 68) dX10_readNode_61 rfl o2 (by decide) ?_
        refine ite_imp (fun w => ?_) (fun w => ?_) w
        · refine g_iconst dX10_readNode_68 ?_
          refine g_iadd dX10_readNode_69 ?_
          refine g_putI (J := 9) dX10_readNode_70 fl_X10_90 (shw_0 hw) (alw_0 hw hn) rfl rfl ?_
          refine g_aload_n dX10_readNode_73 rfl ?_
          refine g_callVV (n := 0) (As := []) (st := []) dX10_readNode_74 ml_X10_60 sh_1 rfl (al_1 hn) rfl rfl (Nat.le_of_ble_eq_true rfl) (RtV.mono w (fun h5 w => ?_))
          refine g_iconst dX10_readNode_77 ?_
          exact g_retZ dX10_readNode_78 rfl (Or.inr rfl) w
        · refine g_iconst dX10_readNode_64 ?_
          refine g_goto (tgt := 69) dX10_readNode_65 rfl ?_
          refine g_iadd dX10_readNode_69 ?_
          refine g_putI (J := 9) dX10_readNode_70 fl_X10_90 (shw_0 hw) (alw_0 hw hn) rfl rfl ?_
          refine g_aload_n dX10_readNode_73 rfl ?_
          refine g_callVV (n := 0) (As := []) (st := []) dX10_readNode_74 ml_X10_60 sh_1 rfl (al_1 hn) rfl rfl (Nat.le_of_ble_eq_true rfl) (RtV.mono w (fun h6 w => ?_))
          refine g_iconst dX10_readNode_77 ?_
          exact g_retZ dX10_readNode_78 rfl (Or.inr rfl) w
      · refine g_aload_n dX10_readNode_44 rfl ?_
        refine g_iconst dX10_readNode_45 ?_
        refine g_callVI (n := 1) (As := [aI 1]) (st := []) dX10_readNode_46 ml_X10_56 sh_1 rfl (al_1 hn) rfl rfl (Nat.le_of_ble_eq_true rfl) (RtI.mono w (fun r7 h7 w => ?_))
        obtain ⟨o3, w⟩ := w
        exact g_retZ dX10_readNode_49 rfl o3 w
  · refine g_iconst dX10_readNode_10 ?_
    exact g_retZ dX10_readNode_11 rfl (Or.inl rfl) w
theorem e_X10_readEnds {l : Launch} {D : Nat} {ζ : ZP} {h : HI} {Q : Int → HI → Prop} {wc : Nat} (hn : 144 ≤ ζ.2.2.2.2) (hw : isW wc) (w : RtI l D mX10_readNode (zz ζ) [aP wc, aP 1] h (fun r1 h1 => (rg r1) ∧ (if ¬ r1 = 0 then ((0 ≤ (h1 wc 0) ∧ (h1 wc 0) < 12) ∧ RtI l D mX10_readNode (zz ζ) [aP wc, aP 1] (hu h1 (wc + 1) (h1 wc 0) (h1 wc 9)) (fun r2 h2 => (rg r2) ∧ (if ¬ r2 = 0 then ((0 ≤ (h2 wc 0) ∧ (h2 wc 0) < 12) ∧ Q 1 (hu h2 (wc + 2) (h2 wc 0) (h2 wc 9))) else (Q 0 h2)))) else (Q 0 h1)))) : RtI l (D + 1) mX10_readEnds (zz ζ) [aP wc, aP 1] h Q := by
  refine RtI.of 0 pn_X10 [aP wc, aP 1] rfl rfl ?_
  refine g_aload_n dX10_readEnds_0 rfl ?_
  refine g_aload_n dX10_readEnds_1 rfl ?_
  refine g_callVI (n := 1) (As := [aP 1]) (st := []) dX10_readEnds_2 ml_X10_93 (shw_0 hw) rfl (alw_0 hw hn) rfl rfl (Nat.le_of_ble_eq_true rfl) (RtI.mono w (fun r1 h1 w => ?_))
  obtain ⟨o1, w⟩ := w
  refine g_if_ne (tgt := 10) dX10_readEnds_5 rfl o1 ?_
  refine ite_imp (fun w => ?_) (fun w => ?_) w
  · refine g_aload_n dX10_readEnds_10 rfl ?_
    refine g_getR dX10_readEnds_11 fl_X10_11 (shw_0 hw) (alw_0 hw hn) (fun _ _ _ => rfl) (rfw_1 hw) ?_
    refine g_aload_n dX10_readEnds_14 rfl ?_
    refine g_getI (J := 0) dX10_readEnds_15 fl_X10_33 (shw_0 hw) (alw_0 hw hn) (fun _ _ _ => rfl) rfl ?_
    refine g_aload_n dX10_readEnds_18 rfl ?_
    refine g_getI (J := 9) dX10_readEnds_19 fl_X10_90 (shw_0 hw) (alw_0 hw hn) (fun _ _ _ => rfl) rfl ?_
    obtain ⟨o2, w⟩ := w
    refine g_iast dX10_readEnds_22 (shw_1 hw) (alw_1 hw hn) (Nat.le_of_ble_eq_true rfl) o2 ?_
    refine g_aload_n dX10_readEnds_23 rfl ?_
    refine g_aload_n dX10_readEnds_24 rfl ?_
    refine g_callVI (n := 1) (As := [aP 1]) (st := []) dX10_readEnds_25 ml_X10_93 (shw_0 hw) rfl (alw_0 hw hn) rfl rfl (Nat.le_of_ble_eq_true rfl) (RtI.mono w (fun r2 h2 w => ?_))
    obtain ⟨o3, w⟩ := w
    refine g_if_ne (tgt := 33) dX10_readEnds_28 rfl o3 ?_
    refine ite_imp (fun w => ?_) (fun w => ?_) w
    · refine g_aload_n dX10_readEnds_33 rfl ?_
      refine g_getR dX10_readEnds_34 fl_X10_15 (shw_0 hw) (alw_0 hw hn) (fun _ _ _ => rfl) (rfw_2 hw) ?_
      refine g_aload_n dX10_readEnds_37 rfl ?_
      refine g_getI (J := 0) dX10_readEnds_38 fl_X10_33 (shw_0 hw) (alw_0 hw hn) (fun _ _ _ => rfl) rfl ?_
      refine g_aload_n dX10_readEnds_41 rfl ?_
      refine g_getI (J := 9) dX10_readEnds_42 fl_X10_90 (shw_0 hw) (alw_0 hw hn) (fun _ _ _ => rfl) rfl ?_
      obtain ⟨o4, w⟩ := w
      refine g_iast dX10_readEnds_45 (shw_2 hw) (alw_2 hw hn) (Nat.le_of_ble_eq_true rfl) o4 ?_
      refine g_iconst dX10_readEnds_46 ?_
      exact g_retZ dX10_readEnds_47 rfl (Or.inr rfl) w
    · refine g_iconst dX10_readEnds_31 ?_
      exact g_retZ dX10_readEnds_32 rfl (Or.inl rfl) w
  · refine g_iconst dX10_readEnds_8 ?_
    exact g_retZ dX10_readEnds_9 rfl (Or.inl rfl) w
theorem b_X10_readAfters_14 {l : Launch} {D : Nat} {ζ : ZP} {h : HI} {Q : Int → HI → Prop} {x2 : Int} {wc : Nat} (hn : 144 ≤ ζ.2.2.2.2) (hw : isW wc) (w : (rg x2) ∧ (if x2 ≤ 0 then (Q 1 h) else ((rg (h 1 7)) ∧ (if ¬ (h 1 7) = 21 then (Q 1 h) else (RtV l D mX7_step (zz ζ) [aP 1] h (fun h1 => RtI l D mX7_isName (zz ζ) [aP 1] h1 (fun r2 h2 => (rg r2) ∧ (if ¬ r2 = 0 then (RtI l D mX10_named (zz ζ) [aP wc, aI (h2 1 6)] h2 (fun r3 h3 => (rg r3) ∧ (if ¬ r3 = (-1) then ((0 ≤ (h3 wc 0) ∧ (h3 wc 0) < 12) ∧ RtV l D mX7_step (zz ζ) [aP 1] (hu h3 (wc + 3) (h3 wc 0) (bor (h3 (wc + 3) (h3 wc 0)) (bshl 1 r3))) (fun h4 => G l (D + 1) 0 0 mX10_readAfters (zz ζ) 14 [aP wc, aP 1, aI (x2 + (-1)), aU] [] h4 (qI (zz ζ) Q))) else (RtI l D mX7_refuse (zz ζ) [aP 1, aI 3] h3 (fun r5 h5 => (r5 = 0 ∨ r5 = 1) ∧ Q r5 h5))))) else (RtI l D mX7_refuse (zz ζ) [aP 1, aI 1] h2 (fun r6 h6 => (r6 = 0 ∨ r6 = 1) ∧ Q r6 h6)))))))))) : G l (D + 1) 0 0 mX10_readAfters (zz ζ) 14 [aP wc, aP 1, aI x2, aU] [] h (qI (zz ζ) Q) := by
  refine g_iload_n dX10_readAfters_14 rfl ?_
  obtain ⟨o1, w⟩ := w
  refine g_if_le (tgt := 89) dX10_readAfters_15 rfl o1 ?_
  refine ite_imp (fun w => ?_) (fun w => ?_) w
  · refine g_iconst dX10_readAfters_89 ?_
    exact g_retZ dX10_readAfters_90 rfl (Or.inr rfl) w
  · refine g_aload_n dX10_readAfters_18 rfl ?_
    refine g_getI (J := 7) dX10_readAfters_19 fl_X10_53 sh_1 (al_1 hn) (fun _ _ _ => rfl) rfl ?_
    refine g_bipush dX10_readAfters_22 rfl ?_
    obtain ⟨o2, w⟩ := w
    refine g_cmp_ne (tgt := 89) dX10_readAfters_24 rfl o2 (by decide) ?_
    refine ite_imp (fun w => ?_) (fun w => ?_) w
    · refine g_iconst dX10_readAfters_89 ?_
      exact g_retZ dX10_readAfters_90 rfl (Or.inr rfl) w
    · refine g_aload_n dX10_readAfters_27 rfl ?_
      refine g_callVV (n := 0) (As := []) (st := []) dX10_readAfters_28 ml_X10_60 sh_1 rfl (al_1 hn) rfl rfl (Nat.le_of_ble_eq_true rfl) (RtV.mono w (fun h1 w => ?_))
      refine g_aload_n dX10_readAfters_31 rfl ?_
      refine g_callVI (n := 0) (As := []) (st := []) dX10_readAfters_32 ml_X10_63 sh_1 rfl (al_1 hn) rfl rfl (Nat.le_of_ble_eq_true rfl) (RtI.mono w (fun r2 h2 w => ?_))
      obtain ⟨o3, w⟩ := w
      refine g_if_ne (tgt := 44) dX10_readAfters_35 rfl o3 ?_
      refine ite_imp (fun w => ?_) (fun w => ?_) w
      · refine g_aload_n dX10_readAfters_44 rfl ?_
        refine g_aload_n dX10_readAfters_45 rfl ?_
        refine g_getI (J := 6) dX10_readAfters_46 fl_X10_67 sh_1 (al_1 hn) (fun _ _ _ => rfl) rfl ?_
        refine g_callVI (n := 1) (As := [aI (h2 1 6)]) (st := []) dX10_readAfters_49 ml_X10_70 (shw_0 hw) rfl (alw_0 hw hn) rfl rfl (Nat.le_of_ble_eq_true rfl) (RtI.mono w (fun r3 h3 w => ?_))
        refine g_istore_n (ls' := [aP wc, aP 1, aI x2, aI r3]) dX10_readAfters_52 (Nat.le_of_ble_eq_true rfl) rfl rfl ?_
        refine g_iload_n dX10_readAfters_53 rfl ?_
        refine g_iconst dX10_readAfters_54 ?_
        obtain ⟨o4, w⟩ := w
        refine g_cmp_ne (tgt := 64) dX10_readAfters_55 rfl o4 (by decide) ?_
        refine ite_imp (fun w => ?_) (fun w => ?_) w
        · refine g_aload_n dX10_readAfters_64 rfl ?_
          refine g_getR dX10_readAfters_65 fl_X10_18 (shw_0 hw) (alw_0 hw hn) (fun _ _ _ => rfl) (rfw_3 hw) ?_
          refine g_aload_n dX10_readAfters_68 rfl ?_
          refine g_getI (J := 0) dX10_readAfters_69 fl_X10_33 (shw_0 hw) (alw_0 hw hn) (fun _ _ _ => rfl) rfl ?_
          refine g_dup2 dX10_readAfters_72 rfl rfl ?_
          obtain ⟨o5, w⟩ := w
          refine g_iald dX10_readAfters_73 (shw_3 hw) (alw_3 hw hn) (Nat.le_of_ble_eq_true rfl) o5 ?_
          refine g_iconst dX10_readAfters_74 ?_
          refine g_iload_n dX10_readAfters_75 rfl ?_
          refine g_ishl dX10_readAfters_76 ?_
          refine g_ior dX10_readAfters_77 ?_
          refine g_iast dX10_readAfters_78 (shw_3 hw) (alw_3 hw hn) (Nat.le_of_ble_eq_true rfl) o5 ?_
          refine g_aload_n dX10_readAfters_79 rfl ?_
          refine g_callVV (n := 0) (As := []) (st := []) dX10_readAfters_80 ml_X10_60 sh_1 rfl (al_1 hn) rfl rfl (Nat.le_of_ble_eq_true rfl) (RtV.mono w (fun h4 w => ?_))
          refine g_iinc (ls' := [aP wc, aP 1, aI (x2 + (-1)), aI r3]) dX10_readAfters_83 rfl (Nat.le_of_ble_eq_true rfl) rfl rfl ?_
          refine g_goto (tgt := 14) dX10_readAfters_86 rfl ?_
          exact g_sub (ls' := [aP wc, aP 1, aI (x2 + (-1)), aU]) ⟨Or.inr rfl, Or.inr rfl, Or.inr rfl, Or.inl rfl, trivial⟩ w
        · refine g_aload_n dX10_readAfters_58 rfl ?_
          refine g_iconst dX10_readAfters_59 ?_
          refine g_callVI (n := 1) (As := [aI 3]) (st := []) dX10_readAfters_60 ml_X10_56 sh_1 rfl (al_1 hn) rfl rfl (Nat.le_of_ble_eq_true rfl) (RtI.mono w (fun r5 h5 w => ?_))
          obtain ⟨o6, w⟩ := w
          exact g_retZ dX10_readAfters_63 rfl o6 w
      · refine g_aload_n dX10_readAfters_38 rfl ?_
        refine g_iconst dX10_readAfters_39 ?_
        refine g_callVI (n := 1) (As := [aI 1]) (st := []) dX10_readAfters_40 ml_X10_56 sh_1 rfl (al_1 hn) rfl rfl (Nat.le_of_ble_eq_true rfl) (RtI.mono w (fun r6 h6 w => ?_))
        obtain ⟨o7, w⟩ := w
        exact g_retZ dX10_readAfters_43 rfl o7 w
theorem e_X10_readAfters {l : Launch} {D : Nat} {ζ : ZP} {h : HI} {Q : Int → HI → Prop} {wc : Nat} (hn : 144 ≤ ζ.2.2.2.2) (hw : isW wc) (w : (0 ≤ (h wc 0) ∧ (h wc 0) < 12) ∧ G l (D + 1) 0 0 mX10_readAfters (zz ζ) 14 [aP wc, aP 1, aI 540, aU] [] (hu h (wc + 3) (h wc 0) 0) (qI (zz ζ) Q)) : RtI l (D + 1) mX10_readAfters (zz ζ) [aP wc, aP 1] h Q := by
  refine RtI.of 2 pn_X10 [aP wc, aP 1, aU, aU] rfl rfl ?_
  refine g_aload_n dX10_readAfters_0 rfl ?_
  refine g_getR dX10_readAfters_1 fl_X10_18 (shw_0 hw) (alw_0 hw hn) (fun _ _ _ => rfl) (rfw_3 hw) ?_
  refine g_aload_n dX10_readAfters_4 rfl ?_
  refine g_getI (J := 0) dX10_readAfters_5 fl_X10_33 (shw_0 hw) (alw_0 hw hn) (fun _ _ _ => rfl) rfl ?_
  refine g_iconst dX10_readAfters_8 ?_
  obtain ⟨o1, w⟩ := w
  refine g_iast dX10_readAfters_9 (shw_3 hw) (alw_3 hw hn) (Nat.le_of_ble_eq_true rfl) o1 ?_
  refine g_sipush dX10_readAfters_10 rfl ?_
  refine g_istore_n (ls' := [aP wc, aP 1, aI 540, aU]) dX10_readAfters_13 (Nat.le_of_ble_eq_true rfl) rfl rfl ?_
  exact g_sub (ls' := [aP wc, aP 1, aI 540, aU]) ⟨Or.inr rfl, Or.inr rfl, Or.inr rfl, Or.inl rfl, trivial⟩ w
theorem b_X10_readNears_8 {l : Launch} {D : Nat} {ζ : ZP} {h : HI} {Q : Int → HI → Prop} {x2 : Int} {wc : Nat} (hn : 144 ≤ ζ.2.2.2.2) (hw : isW wc) (w : (rg x2) ∧ (if x2 ≤ 0 then (Q 1 h) else ((rg (h 1 7)) ∧ (if ¬ (h 1 7) = 22 then (Q 1 h) else (RtV l D mX7_step (zz ζ) [aP 1] h (fun h1 => RtI l D mX10_readNode (zz ζ) [aP wc, aP 1] h1 (fun r2 h2 => (rg r2) ∧ (if ¬ r2 = 0 then ((0 ≤ (h2 wc 4) ∧ (h2 wc 4) < 64) ∧ RtI l D mX10_readNode (zz ζ) [aP wc, aP 1] (hu h2 (wc + 5) (h2 wc 4) (h2 wc 9)) (fun r3 h3 => (rg r3) ∧ (if ¬ r3 = 0 then ((0 ≤ (h3 wc 4) ∧ (h3 wc 4) < 64) ∧ (0 ≤ ((hu h3 (wc + 6) (h3 wc 4) (h3 wc 9)) wc 4) ∧ ((hu h3 (wc + 6) (h3 wc 4) (h3 wc 9)) wc 4) < 64) ∧ G l (D + 1) 0 0 mX10_readNears (zz ζ) 8 [aP wc, aP 1, aI (x2 + (-1))] [] (hu (hu (hu h3 (wc + 6) (h3 wc 4) (h3 wc 9)) (wc + 4) ((hu h3 (wc + 6) (h3 wc 4) (h3 wc 9)) wc 4) ((hu h3 (wc + 6) (h3 wc 4) (h3 wc 9)) wc 0)) wc 4 (((hu (hu h3 (wc + 6) (h3 wc 4) (h3 wc 9)) (wc + 4) ((hu h3 (wc + 6) (h3 wc 4) (h3 wc 9)) wc 4) ((hu h3 (wc + 6) (h3 wc 4) (h3 wc 9)) wc 0)) wc 4) + 1)) (qI (zz ζ) Q)) else (Q 0 h3)))) else (Q 0 h2))))))))) : G l (D + 1) 0 0 mX10_readNears (zz ζ) 8 [aP wc, aP 1, aI x2] [] h (qI (zz ζ) Q) := by
  refine g_iload_n dX10_readNears_8 rfl ?_
  obtain ⟨o1, w⟩ := w
  refine g_if_le (tgt := 100) dX10_readNears_9 rfl o1 ?_
  refine ite_imp (fun w => ?_) (fun w => ?_) w
  · refine g_iconst dX10_readNears_100 ?_
    exact g_retZ dX10_readNears_101 rfl (Or.inr rfl) w
  · refine g_aload_n dX10_readNears_12 rfl ?_
    refine g_getI (J := 7) dX10_readNears_13 fl_X10_53 sh_1 (al_1 hn) (fun _ _ _ => rfl) rfl ?_
    refine g_bipush dX10_readNears_16 rfl ?_
    obtain ⟨o2, w⟩ := w
    refine g_cmp_ne (tgt := 100) dX10_readNears_18 rfl o2 (by decide) ?_
    refine ite_imp (fun w => ?_) (fun w => ?_) w
    · refine g_iconst dX10_readNears_100 ?_
      exact g_retZ dX10_readNears_101 rfl (Or.inr rfl) w
    · refine g_aload_n dX10_readNears_21 rfl ?_
      refine g_callVV (n := 0) (As := []) (st := []) dX10_readNears_22 ml_X10_60 sh_1 rfl (al_1 hn) rfl rfl (Nat.le_of_ble_eq_true rfl) (RtV.mono w (fun h1 w => ?_))
      refine g_aload_n dX10_readNears_25 rfl ?_
      refine g_aload_n dX10_readNears_26 rfl ?_
      refine g_callVI (n := 1) (As := [aP 1]) (st := []) dX10_readNears_27 ml_X10_93 (shw_0 hw) rfl (alw_0 hw hn) rfl rfl (Nat.le_of_ble_eq_true rfl) (RtI.mono w (fun r2 h2 w => ?_))
      obtain ⟨o3, w⟩ := w
      refine g_if_ne (tgt := 35) dX10_readNears_30 rfl o3 ?_
      refine ite_imp (fun w => ?_) (fun w => ?_) w
      · refine g_aload_n dX10_readNears_35 rfl ?_
        refine g_getR dX10_readNears_36 fl_X10_24 (shw_0 hw) (alw_0 hw hn) (fun _ _ _ => rfl) (rfw_6 hw) ?_
        refine g_aload_n dX10_readNears_39 rfl ?_
        refine g_getI (J := 4) dX10_readNears_40 fl_X10_37 (shw_0 hw) (alw_0 hw hn) (fun _ _ _ => rfl) rfl ?_
        refine g_aload_n dX10_readNears_43 rfl ?_
        refine g_getI (J := 9) dX10_readNears_44 fl_X10_90 (shw_0 hw) (alw_0 hw hn) (fun _ _ _ => rfl) rfl ?_
        obtain ⟨o4, w⟩ := w
        refine g_iast dX10_readNears_47 (shw_5 hw) (alw_5 hw hn) (Nat.le_of_ble_eq_true rfl) o4 ?_
        refine g_aload_n dX10_readNears_48 rfl ?_
        refine g_aload_n dX10_readNears_49 rfl ?_
        refine g_callVI (n := 1) (As := [aP 1]) (st := []) dX10_readNears_50 ml_X10_93 (shw_0 hw) rfl (alw_0 hw hn) rfl rfl (Nat.le_of_ble_eq_true rfl) (RtI.mono w (fun r3 h3 w => ?_))
        obtain ⟨o5, w⟩ := w
        refine g_if_ne (tgt := 58) dX10_readNears_53 rfl o5 ?_
        refine ite_imp (fun w => ?_) (fun w => ?_) w
        · refine g_aload_n dX10_readNears_58 rfl ?_
          refine g_getR dX10_readNears_59 fl_X10_27 (shw_0 hw) (alw_0 hw hn) (fun _ _ _ => rfl) (rfw_7 hw) ?_
          refine g_aload_n dX10_readNears_62 rfl ?_
          refine g_getI (J := 4) dX10_readNears_63 fl_X10_37 (shw_0 hw) (alw_0 hw hn) (fun _ _ _ => rfl) rfl ?_
          refine g_aload_n dX10_readNears_66 rfl ?_
          refine g_getI (J := 9) dX10_readNears_67 fl_X10_90 (shw_0 hw) (alw_0 hw hn) (fun _ _ _ => rfl) rfl ?_
          obtain ⟨o6, w⟩ := w
          refine g_iast dX10_readNears_70 (shw_6 hw) (alw_6 hw hn) (Nat.le_of_ble_eq_true rfl) o6 ?_
          refine g_aload_n dX10_readNears_71 rfl ?_
          refine g_getR dX10_readNears_72 fl_X10_21 (shw_0 hw) (alw_0 hw hn) (fun _ _ _ => rfl) (rfw_5 hw) ?_
          refine g_aload_n dX10_readNears_75 rfl ?_
          refine g_getI (J := 4) dX10_readNears_76 fl_X10_37 (shw_0 hw) (alw_0 hw hn) (fun _ _ _ => rfl) rfl ?_
          refine g_aload_n dX10_readNears_79 rfl ?_
          refine g_getI (J := 0) dX10_readNears_80 fl_X10_33 (shw_0 hw) (alw_0 hw hn) (fun _ _ _ => rfl) rfl ?_
          obtain ⟨o7, w⟩ := w
          refine g_iast dX10_readNears_83 (shw_4 hw) (alw_4 hw hn) (Nat.le_of_ble_eq_true rfl) o7 ?_
          refine g_aload_n dX10_readNears_84 rfl ?_
          refine g_dup dX10_readNears_85 rfl ?_
          refine g_getI (J := 4) dX10_readNears_86 fl_X10_37 (shw_0 hw) (alw_0 hw hn) (fun _ _ _ => rfl) rfl ?_
          refine g_iconst dX10_readNears_89 ?_
          refine g_iadd dX10_readNears_90 ?_
          refine g_putI (J := 4) dX10_readNears_91 fl_X10_37 (shw_0 hw) (alw_0 hw hn) rfl rfl ?_
          refine g_iinc (ls' := [aP wc, aP 1, aI (x2 + (-1))]) dX10_readNears_94 rfl (Nat.le_of_ble_eq_true rfl) rfl rfl ?_
          refine g_goto (tgt := 8) dX10_readNears_97 rfl ?_
          exact g_sub (ls' := [aP wc, aP 1, aI (x2 + (-1))]) ⟨Or.inr rfl, Or.inr rfl, Or.inr rfl, trivial⟩ w
        · refine g_iconst dX10_readNears_56 ?_
          exact g_retZ dX10_readNears_57 rfl (Or.inl rfl) w
      · refine g_iconst dX10_readNears_33 ?_
        exact g_retZ dX10_readNears_34 rfl (Or.inl rfl) w
theorem e_X10_readNears {l : Launch} {D : Nat} {ζ : ZP} {h : HI} {Q : Int → HI → Prop} {wc : Nat} (hn : 144 ≤ ζ.2.2.2.2) (hw : isW wc) (w : G l (D + 1) 0 0 mX10_readNears (zz ζ) 8 [aP wc, aP 1, aI (64 - (h wc 4))] [] h (qI (zz ζ) Q)) : RtI l (D + 1) mX10_readNears (zz ζ) [aP wc, aP 1] h Q := by
  refine RtI.of 1 pn_X10 [aP wc, aP 1, aU] rfl rfl ?_
  refine g_bipush dX10_readNears_0 rfl ?_
  refine g_aload_n dX10_readNears_2 rfl ?_
  refine g_getI (J := 4) dX10_readNears_3 fl_X10_37 (shw_0 hw) (alw_0 hw hn) (fun _ _ _ => rfl) rfl ?_
  refine g_isub dX10_readNears_6 ?_
  refine g_istore_n (ls' := [aP wc, aP 1, aI (64 - (h wc 4))]) dX10_readNears_7 (Nat.le_of_ble_eq_true rfl) rfl rfl ?_
  exact g_sub (ls' := [aP wc, aP 1, aI (64 - (h wc 4))]) ⟨Or.inr rfl, Or.inr rfl, Or.inr rfl, trivial⟩ w
