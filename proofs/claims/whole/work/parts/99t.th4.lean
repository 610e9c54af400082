theorem gx_throw2 {l : Launch} {d mc ms : Nat} {i : MT} {z : ZR} {pc : Nat} {ls st : List AV} {h h0 : HI} {Q : Option AV → HI → ZR → Prop} (e : h = h0) (hl9 : l.stackTraces = false) (hi : i.1.cls = RX11) (d0 : decode i.2.1 pc = .ok (.new 168, 3)) (d3 : decode i.2.1 (pc + 3) = .ok (.dup, 1)) (d4 : decode i.2.1 (pc + 4) = .ok (.invokespecial 170, 3)) (d7 : decode i.2.1 (pc + 7) = .ok (.athrow, 1)) (hd : 5 < d) (hst : (st.map acat).sum ≤ 8) (hmc : 1 ≤ mc) (hms : 6 ≤ ms) : GX h0 l d mc ms i z pc ls st h Q := by
  subst e
  exact gx_throw hl9 hi d0 d3 d4 d7 hd hst hmc hms
/-! the methods that may throw: where they do not (e_), where they do (x_); the law's helpers (n_L_, x_L_); written by wip/whole/gen_throw2.py -/
theorem e_X11_lean {l : Launch} {D : Nat} {ζ : ZP} {h : HI} {Q : Int → HI → Prop} {x1 x2 : Int} (hn : 144 ≤ ζ.2.2.2.2) (w : RtI l D mX0_hasBench (zz ζ) [aP 4, aI x1] h (fun r1 h1 => (rg r1) ∧ (if r1 = 0 then (False) else (RtI l D mX11_within (zz ζ) [aI x2, aI 0, aI 2] h1 (fun r2 h2 => (rg r2) ∧ (if ¬ r2 = 0 then (RtV l D mX8_refresh (zz ζ) [aP 40, aP 3] h2 (fun h3 => (rg x2) ∧ (if ¬ x2 = 2 then (if ¬ x2 = 0 then ((0 ≤ x1 ∧ x1 < 6) ∧ Q (h3 43 x1) h3) else ((0 ≤ x1 ∧ x1 < 6) ∧ Q (h3 42 x1) h3)) else ((0 ≤ x1 ∧ x1 < 6) ∧ (rg (h3 41 x1)) ∧ (if (h3 41 x1) = 0 then (Q 0 h3) else (Q 1 h3)))))) else (False))))))) : RtI l (D + 1) mX11_lean (zz ζ) [aP 0, aI x1, aI x2] h Q := by
  refine RtI.of 0 pn_X11 [aP 0, aI x1, aI x2] rfl rfl ?_
  refine g_aload_n dX11_lean_0 rfl ?_
  refine g_getR dX11_lean_1 fl_X11_19 sh_0 (al_0 hn) (fun _ _ _ => rfl) rf_0_1 ?_
  refine g_getR dX11_lean_4 fl_X11_128 sh_3 (al_3 hn) (fun _ _ _ => rfl) rf_3_0 ?_
  refine g_iload_n dX11_lean_7 rfl ?_
  refine g_callVI (n := 1) (As := [aI x1]) (st := []) dX11_lean_8 ml_X11_142 sh_4 rfl (al_4 hn) rfl rfl (Nat.le_of_ble_eq_true rfl) (RtI.mono w (fun r1 h1 w => ?_))
  obtain ⟨o1, w⟩ := w
  refine g_if_eq (tgt := 23) dX11_lean_11 rfl o1 ?_
  refine ite_imp (fun w => ?_) (fun w => ?_) w
  · exact w.elim
  · refine g_iload_n dX11_lean_14 rfl ?_
    refine g_iconst dX11_lean_15 ?_
    refine g_iconst dX11_lean_16 ?_
    refine g_callSI (n := 3) (As := [aI x2, aI 0, aI 2]) (st := []) dX11_lean_17 ml_X11_145 rfl rfl (Nat.le_of_ble_eq_true rfl) rfl (RtI.mono w (fun r2 h2 w => ?_))
    obtain ⟨o2, w⟩ := w
    refine g_if_ne (tgt := 31) dX11_lean_20 rfl o2 ?_
    refine ite_imp (fun w => ?_) (fun w => ?_) w
    · refine g_aload_n dX11_lean_31 rfl ?_
      refine g_getR dX11_lean_32 fl_X11_44 sh_0 (al_0 hn) (fun _ _ _ => rfl) rf_0_5 ?_
      refine g_aload_n dX11_lean_35 rfl ?_
      refine g_getR dX11_lean_36 fl_X11_19 sh_0 (al_0 hn) (fun _ _ _ => rfl) rf_0_1 ?_
      refine g_callVV (n := 1) (As := [aP 3]) (st := []) dX11_lean_39 ml_X11_171 sh_40 rfl (al_40 hn) rfl rfl (Nat.le_of_ble_eq_true rfl) (RtV.mono w (fun h3 w => ?_))
      refine g_iload_n dX11_lean_42 rfl ?_
      refine g_iconst dX11_lean_43 ?_
      obtain ⟨o3, w⟩ := w
      refine g_cmp_ne (tgt := 65) dX11_lean_44 rfl o3 (by decide) ?_
      refine ite_imp (fun w => ?_) (fun w => ?_) w
      · refine g_iload_n dX11_lean_65 rfl ?_
        refine g_if_ne (tgt := 81) dX11_lean_66 rfl o3 ?_
        refine ite_imp (fun w => ?_) (fun w => ?_) w
        · refine g_aload_n dX11_lean_81 rfl ?_
          refine g_getR dX11_lean_82 fl_X11_44 sh_0 (al_0 hn) (fun _ _ _ => rfl) rf_0_5 ?_
          refine g_getR dX11_lean_85 fl_X11_182 sh_40 (al_40 hn) (fun _ _ _ => rfl) rf_40_3 ?_
          refine g_iload_n dX11_lean_88 rfl ?_
          obtain ⟨o4, w⟩ := w
          refine g_iald dX11_lean_89 sh_43 (al_43 hn) (Nat.le_of_ble_eq_true rfl) o4 ?_
          exact g_retI dX11_lean_90 rfl w
        · refine g_aload_n dX11_lean_69 rfl ?_
          refine g_getR dX11_lean_70 fl_X11_44 sh_0 (al_0 hn) (fun _ _ _ => rfl) rf_0_5 ?_
          refine g_getR dX11_lean_73 fl_X11_179 sh_40 (al_40 hn) (fun _ _ _ => rfl) rf_40_2 ?_
          refine g_iload_n dX11_lean_76 rfl ?_
          obtain ⟨o5, w⟩ := w
          refine g_iald dX11_lean_77 sh_42 (al_42 hn) (Nat.le_of_ble_eq_true rfl) o5 ?_
          refine g_goto (tgt := 90) dX11_lean_78 rfl ?_
          exact g_retI dX11_lean_90 rfl w
      · refine g_aload_n dX11_lean_47 rfl ?_
        refine g_getR dX11_lean_48 fl_X11_44 sh_0 (al_0 hn) (fun _ _ _ => rfl) rf_0_5 ?_
        refine g_getR dX11_lean_51 fl_X11_175 sh_40 (al_40 hn) (fun _ _ _ => rfl) rf_40_1 ?_
        refine g_iload_n dX11_lean_54 rfl ?_
        obtain ⟨o6, w⟩ := w
        refine g_zald dX11_lean_55 sh_41 (al_41 hn) (Nat.le_of_ble_eq_true rfl) o6 ?_
        obtain ⟨o7, w⟩ := w
        refine g_if_eq (tgt := 63) dX11_lean_56 rfl o7 ?_
        refine ite_imp (fun w => ?_) (fun w => ?_) w
        · refine g_iconst dX11_lean_63 ?_
          exact g_retI dX11_lean_64 rfl w
        · refine g_iconst dX11_lean_59 ?_
          refine g_goto (tgt := 64) dX11_lean_60 rfl ?_
          exact g_retI dX11_lean_64 rfl w
    · exact w.elim
theorem x_X11_lean {l : Launch} {D : Nat} {ζ : ZP} {h : HI} {x1 x2 : Int} (hl9 : l.stackTraces = false) (hn : 144 ≤ ζ.2.2.2.2) (w : RtI l (D + 5) mX0_hasBench (zz ζ) [aP 4, aI x1] h (fun r1 h1 => (rg r1) ∧ (if r1 = 0 then (h1 = h) else (RtI l (D + 5) mX11_within (zz ζ) [aI x2, aI 0, aI 2] h1 (fun r2 h2 => (rg r2) ∧ (if ¬ r2 = 0 then (False) else (h2 = h))))))) : RetX l (D + 6) 1 6 mX11_lean (zz ζ) [aP 0, aI x1, aI x2] h := by
  refine RetX.of 0 pn_X11 [aP 0, aI x1, aI x2] rfl rfl ?_
  refine gx_aload_n dX11_lean_0 rfl ?_
  refine gx_getR dX11_lean_1 fl_X11_19 sh_0 (al_0 hn) (fun _ _ _ => rfl) rf_0_1 ?_
  refine gx_getR dX11_lean_4 fl_X11_128 sh_3 (al_3 hn) (fun _ _ _ => rfl) rf_3_0 ?_
  refine gx_iload_n dX11_lean_7 rfl ?_
  refine gx_callVI (n := 1) (As := [aI x1]) (st := []) dX11_lean_8 ml_X11_142 sh_4 rfl (al_4 hn) rfl rfl (Nat.le_of_ble_eq_true rfl) (RtI.mono w (fun r1 h1 w => ?_))
  obtain ⟨o1, w⟩ := w
  refine gx_if_eq (tgt := 23) dX11_lean_11 rfl o1 ?_
  refine ite_imp (fun w => ?_) (fun w => ?_) w
  · exact gx_throw2 (d := D + 6) (mc := 1) (ms := 6) w hl9 rfl dX11_lean_23 dX11_lean_26 dX11_lean_27 dX11_lean_30 (by omega) (Nat.le_of_ble_eq_true rfl) (by decide) (by decide)
  · refine gx_iload_n dX11_lean_14 rfl ?_
    refine gx_iconst dX11_lean_15 ?_
    refine gx_iconst dX11_lean_16 ?_
    refine gx_callSI (n := 3) (As := [aI x2, aI 0, aI 2]) (st := []) dX11_lean_17 ml_X11_145 rfl rfl (Nat.le_of_ble_eq_true rfl) rfl (RtI.mono w (fun r2 h2 w => ?_))
    obtain ⟨o2, w⟩ := w
    refine gx_if_ne (tgt := 31) dX11_lean_20 rfl o2 ?_
    refine ite_imp (fun w => ?_) (fun w => ?_) w
    · exact w.elim
    · exact gx_throw2 (d := D + 6) (mc := 1) (ms := 6) w hl9 rfl dX11_lean_23 dX11_lean_26 dX11_lean_27 dX11_lean_30 (by omega) (Nat.le_of_ble_eq_true rfl) (by decide) (by decide)
theorem e_X11_about {l : Launch} {D : Nat} {ζ : ZP} {h : HI} {Q : Int → HI → Prop} {x1 x2 : Int} (hn : 144 ≤ ζ.2.2.2.2) (w : RtI l D mX5_hasCell (zz ζ) [aP 3, aI x1] h (fun r1 h1 => (rg r1) ∧ (if r1 = 0 then (False) else (RtI l D mX11_within (zz ζ) [aI x2, aI 0, aI 5] h1 (fun r2 h2 => (rg r2) ∧ (if ¬ r2 = 0 then ((rg x2) ∧ (if ¬ x2 = 0 then (if ¬ x2 = 5 then (RtV l D mX8_refresh (zz ζ) [aP 40, aP 3] h2 (fun h3 => (if ¬ x2 = 4 then (RtI l D mX8_toldOf (zz ζ) [aP 40, aI x1, aI x2] h3 (fun r4 h4 => Q r4 h4)) else (RtI l D mX8_flowOf (zz ζ) [aP 40, aI x1] h3 (fun r5 h5 => Q r5 h5))))) else ((0 ≤ x1 ∧ x1 < 60) ∧ Q (h2 11 x1) h2)) else ((0 ≤ x1 ∧ x1 < 60) ∧ Q (h2 22 x1) h2))) else (False))))))) : RtI l (D + 1) mX11_about (zz ζ) [aP 0, aI x1, aI x2] h Q := by
  refine RtI.of 0 pn_X11 [aP 0, aI x1, aI x2] rfl rfl ?_
  refine g_aload_n dX11_about_0 rfl ?_
  refine g_getR dX11_about_1 fl_X11_19 sh_0 (al_0 hn) (fun _ _ _ => rfl) rf_0_1 ?_
  refine g_iload_n dX11_about_4 rfl ?_
  refine g_callVI (n := 1) (As := [aI x1]) (st := []) dX11_about_5 ml_X11_139 sh_3 rfl (al_3 hn) rfl rfl (Nat.le_of_ble_eq_true rfl) (RtI.mono w (fun r1 h1 w => ?_))
  obtain ⟨o1, w⟩ := w
  refine g_if_eq (tgt := 20) dX11_about_8 rfl o1 ?_
  refine ite_imp (fun w => ?_) (fun w => ?_) w
  · exact w.elim
  · refine g_iload_n dX11_about_11 rfl ?_
    refine g_iconst dX11_about_12 ?_
    refine g_iconst dX11_about_13 ?_
    refine g_callSI (n := 3) (As := [aI x2, aI 0, aI 5]) (st := []) dX11_about_14 ml_X11_145 rfl rfl (Nat.le_of_ble_eq_true rfl) rfl (RtI.mono w (fun r2 h2 w => ?_))
    obtain ⟨o2, w⟩ := w
    refine g_if_ne (tgt := 28) dX11_about_17 rfl o2 ?_
    refine ite_imp (fun w => ?_) (fun w => ?_) w
    · refine g_iload_n dX11_about_28 rfl ?_
      obtain ⟨o3, w⟩ := w
      refine g_if_ne (tgt := 42) dX11_about_29 rfl o3 ?_
      refine ite_imp (fun w => ?_) (fun w => ?_) w
      · refine g_iload_n dX11_about_42 rfl ?_
        refine g_iconst dX11_about_43 ?_
        refine g_cmp_ne (tgt := 60) dX11_about_44 rfl o3 (by decide) ?_
        refine ite_imp (fun w => ?_) (fun w => ?_) w
        · refine g_aload_n dX11_about_60 rfl ?_
          refine g_getR dX11_about_61 fl_X11_44 sh_0 (al_0 hn) (fun _ _ _ => rfl) rf_0_5 ?_
          refine g_aload_n dX11_about_64 rfl ?_
          refine g_getR dX11_about_65 fl_X11_19 sh_0 (al_0 hn) (fun _ _ _ => rfl) rf_0_1 ?_
          refine g_callVV (n := 1) (As := [aP 3]) (st := []) dX11_about_68 ml_X11_171 sh_40 rfl (al_40 hn) rfl rfl (Nat.le_of_ble_eq_true rfl) (RtV.mono w (fun h3 w => ?_))
          refine g_iload_n dX11_about_71 rfl ?_
          refine g_iconst dX11_about_72 ?_
          refine g_cmp_ne (tgt := 87) dX11_about_73 rfl o3 (by decide) ?_
          refine ite_imp (fun w => ?_) (fun w => ?_) w
          · refine g_aload_n dX11_about_87 rfl ?_
            refine g_getR dX11_about_88 fl_X11_44 sh_0 (al_0 hn) (fun _ _ _ => rfl) rf_0_5 ?_
            refine g_iload_n dX11_about_91 rfl ?_
            refine g_iload_n dX11_about_92 rfl ?_
            refine g_callVI (n := 2) (As := [aI x1, aI x2]) (st := []) dX11_about_93 ml_X11_200 sh_40 rfl (al_40 hn) rfl rfl (Nat.le_of_ble_eq_true rfl) (RtI.mono w (fun r4 h4 w => ?_))
            exact g_retI dX11_about_96 rfl w
          · refine g_aload_n dX11_about_76 rfl ?_
            refine g_getR dX11_about_77 fl_X11_44 sh_0 (al_0 hn) (fun _ _ _ => rfl) rf_0_5 ?_
            refine g_iload_n dX11_about_80 rfl ?_
            refine g_callVI (n := 1) (As := [aI x1]) (st := []) dX11_about_81 ml_X11_197 sh_40 rfl (al_40 hn) rfl rfl (Nat.le_of_ble_eq_true rfl) (RtI.mono w (fun r5 h5 w => ?_))
            refine g_goto (tgt := 96) dX11_about_84 rfl ?_
            exact g_retI dX11_about_96 rfl w
        · refine g_aload_n dX11_about_47 rfl ?_
          refine g_getR dX11_about_48 fl_X11_19 sh_0 (al_0 hn) (fun _ _ _ => rfl) rf_0_1 ?_
          refine g_getR dX11_about_51 fl_X11_188 sh_3 (al_3 hn) (fun _ _ _ => rfl) rf_3_2 ?_
          refine g_getR dX11_about_54 fl_X11_192 sh_10 (al_10 hn) (fun _ _ _ => rfl) rf_10_1 ?_
          refine g_iload_n dX11_about_57 rfl ?_
          obtain ⟨o4, w⟩ := w
          refine g_iald dX11_about_58 sh_11 (al_11 hn) (Nat.le_of_ble_eq_true rfl) o4 ?_
          exact g_retI dX11_about_59 rfl w
      · refine g_aload_n dX11_about_32 rfl ?_
        refine g_getR dX11_about_33 fl_X11_19 sh_0 (al_0 hn) (fun _ _ _ => rfl) rf_0_1 ?_
        refine g_getR dX11_about_36 fl_X11_185 sh_3 (al_3 hn) (fun _ _ _ => rfl) rf_3_4 ?_
        refine g_iload_n dX11_about_39 rfl ?_
        obtain ⟨o5, w⟩ := w
        refine g_iald dX11_about_40 sh_22 (al_22 hn) (Nat.le_of_ble_eq_true rfl) o5 ?_
        exact g_retI dX11_about_41 rfl w
    · exact w.elim
theorem x_X11_about {l : Launch} {D : Nat} {ζ : ZP} {h : HI} {x1 x2 : Int} (hl9 : l.stackTraces = false) (hn : 144 ≤ ζ.2.2.2.2) (w : RtI l (D + 5) mX5_hasCell (zz ζ) [aP 3, aI x1] h (fun r1 h1 => (rg r1) ∧ (if r1 = 0 then (h1 = h) else (RtI l (D + 5) mX11_within (zz ζ) [aI x2, aI 0, aI 5] h1 (fun r2 h2 => (rg r2) ∧ (if ¬ r2 = 0 then (False) else (h2 = h))))))) : RetX l (D + 6) 1 6 mX11_about (zz ζ) [aP 0, aI x1, aI x2] h := by
  refine RetX.of 0 pn_X11 [aP 0, aI x1, aI x2] rfl rfl ?_
  refine gx_aload_n dX11_about_0 rfl ?_
  refine gx_getR dX11_about_1 fl_X11_19 sh_0 (al_0 hn) (fun _ _ _ => rfl) rf_0_1 ?_
  refine gx_iload_n dX11_about_4 rfl ?_
  refine gx_callVI (n := 1) (As := [aI x1]) (st := []) dX11_about_5 ml_X11_139 sh_3 rfl (al_3 hn) rfl rfl (Nat.le_of_ble_eq_true rfl) (RtI.mono w (fun r1 h1 w => ?_))
  obtain ⟨o1, w⟩ := w
  refine gx_if_eq (tgt := 20) dX11_about_8 rfl o1 ?_
  refine ite_imp (fun w => ?_) (fun w => ?_) w
  · exact gx_throw2 (d := D + 6) (mc := 1) (ms := 6) w hl9 rfl dX11_about_20 dX11_about_23 dX11_about_24 dX11_about_27 (by omega) (Nat.le_of_ble_eq_true rfl) (by decide) (by decide)
  · refine gx_iload_n dX11_about_11 rfl ?_
    refine gx_iconst dX11_about_12 ?_
    refine gx_iconst dX11_about_13 ?_
    refine gx_callSI (n := 3) (As := [aI x2, aI 0, aI 5]) (st := []) dX11_about_14 ml_X11_145 rfl rfl (Nat.le_of_ble_eq_true rfl) rfl (RtI.mono w (fun r2 h2 w => ?_))
    obtain ⟨o2, w⟩ := w
    refine gx_if_ne (tgt := 28) dX11_about_17 rfl o2 ?_
    refine ite_imp (fun w => ?_) (fun w => ?_) w
    · exact w.elim
    · exact gx_throw2 (d := D + 6) (mc := 1) (ms := 6) w hl9 rfl dX11_about_20 dX11_about_23 dX11_about_24 dX11_about_27 (by omega) (Nat.le_of_ble_eq_true rfl) (by decide) (by decide)
theorem e_X11_fall {l : Launch} {D : Nat} {ζ : ZP} {h : HI} {Q : Int → HI → Prop} {x1 x2 : Int} (hn : 144 ≤ ζ.2.2.2.2) (w : RtI l D mX5_hasCell (zz ζ) [aP 3, aI x1] h (fun r1 h1 => (rg r1) ∧ (if r1 = 0 then (False) else (RtI l D mX11_within (zz ζ) [aI x2, aI 0, aI 1] h1 (fun r2 h2 => (rg r2) ∧ (if r2 = 0 then (False) else ((0 ≤ x1 ∧ x1 < 60) ∧ (rg (h2 27 x1)) ∧ (if 2 ≤ (h2 27 x1) then (RtI l D mX5_fallenBy (zz ζ) [aP 3, aI x1] h2 (fun r3 h3 => RtI l D mX5_daysBetween (zz ζ) [aP 3, aI x1] h3 (fun r4 h4 => (rg x2) ∧ (if ¬ x2 = 0 then (RtI l D mX11_greatestDivisor (zz ζ) [aI r3, aI r4] h4 (fun r5 h5 => RtI l D mX11_cut (zz ζ) [aI r4, aI r5] h5 (fun r6 h6 => Q r6 h6))) else (RtI l D mX11_greatestDivisor (zz ζ) [aI r3, aI r4] h4 (fun r7 h7 => RtI l D mX11_cut (zz ζ) [aI r3, aI r7] h7 (fun r8 h8 => Q r8 h8))))))) else (False))))))))) : RtI l (D + 1) mX11_fall (zz ζ) [aP 0, aI x1, aI x2] h Q := by
  refine RtI.of 2 pn_X11 [aP 0, aI x1, aI x2, aU, aU] rfl rfl ?_
  refine g_aload_n dX11_fall_0 rfl ?_
  refine g_getR dX11_fall_1 fl_X11_19 sh_0 (al_0 hn) (fun _ _ _ => rfl) rf_0_1 ?_
  refine g_iload_n dX11_fall_4 rfl ?_
  refine g_callVI (n := 1) (As := [aI x1]) (st := []) dX11_fall_5 ml_X11_139 sh_3 rfl (al_3 hn) rfl rfl (Nat.le_of_ble_eq_true rfl) (RtI.mono w (fun r1 h1 w => ?_))
  obtain ⟨o1, w⟩ := w
  refine g_if_eq (tgt := 33) dX11_fall_8 rfl o1 ?_
  refine ite_imp (fun w => ?_) (fun w => ?_) w
  · exact w.elim
  · refine g_iload_n dX11_fall_11 rfl ?_
    refine g_iconst dX11_fall_12 ?_
    refine g_iconst dX11_fall_13 ?_
    refine g_callSI (n := 3) (As := [aI x2, aI 0, aI 1]) (st := []) dX11_fall_14 ml_X11_145 rfl rfl (Nat.le_of_ble_eq_true rfl) rfl (RtI.mono w (fun r2 h2 w => ?_))
    obtain ⟨o2, w⟩ := w
    refine g_if_eq (tgt := 33) dX11_fall_17 rfl o2 ?_
    refine ite_imp (fun w => ?_) (fun w => ?_) w
    · exact w.elim
    · refine g_aload_n dX11_fall_20 rfl ?_
      refine g_getR dX11_fall_21 fl_X11_19 sh_0 (al_0 hn) (fun _ _ _ => rfl) rf_0_1 ?_
      refine g_getR dX11_fall_24 fl_X11_159 sh_3 (al_3 hn) (fun _ _ _ => rfl) rf_3_11 ?_
      refine g_iload_n dX11_fall_27 rfl ?_
      obtain ⟨o3, w⟩ := w
      refine g_iald dX11_fall_28 sh_27 (al_27 hn) (Nat.le_of_ble_eq_true rfl) o3 ?_
      refine g_iconst dX11_fall_29 ?_
      obtain ⟨o4, w⟩ := w
      refine g_cmp_ge (tgt := 41) dX11_fall_30 rfl o4 (by decide) ?_
      refine ite_imp (fun w => ?_) (fun w => ?_) w
      · refine g_aload_n dX11_fall_41 rfl ?_
        refine g_getR dX11_fall_42 fl_X11_19 sh_0 (al_0 hn) (fun _ _ _ => rfl) rf_0_1 ?_
        refine g_iload_n dX11_fall_45 rfl ?_
        refine g_callVI (n := 1) (As := [aI x1]) (st := []) dX11_fall_46 ml_X11_210 sh_3 rfl (al_3 hn) rfl rfl (Nat.le_of_ble_eq_true rfl) (RtI.mono w (fun r3 h3 w => ?_))
        refine g_istore_n (ls' := [aP 0, aI x1, aI x2, aI r3, aU]) dX11_fall_49 (Nat.le_of_ble_eq_true rfl) rfl rfl ?_
        refine g_aload_n dX11_fall_50 rfl ?_
        refine g_getR dX11_fall_51 fl_X11_19 sh_0 (al_0 hn) (fun _ _ _ => rfl) rf_0_1 ?_
        refine g_iload_n dX11_fall_54 rfl ?_
        refine g_callVI (n := 1) (As := [aI x1]) (st := []) dX11_fall_55 ml_X11_213 sh_3 rfl (al_3 hn) rfl rfl (Nat.le_of_ble_eq_true rfl) (RtI.mono w (fun r4 h4 w => ?_))
        refine g_istore (ls' := [aP 0, aI x1, aI x2, aI r3, aI r4]) dX11_fall_58 (Nat.le_of_ble_eq_true rfl) rfl rfl ?_
        refine g_iload_n dX11_fall_60 rfl ?_
        obtain ⟨o5, w⟩ := w
        refine g_if_ne (tgt := 68) dX11_fall_61 rfl o5 ?_
        refine ite_imp (fun w => ?_) (fun w => ?_) w
        · refine g_iload dX11_fall_68 rfl ?_
          refine g_iload_n dX11_fall_70 rfl ?_
          refine g_iload dX11_fall_71 rfl ?_
          refine g_callSI (n := 2) (As := [aI r3, aI r4]) (st := [aI r4]) dX11_fall_73 ml_X11_216 rfl rfl (Nat.le_of_ble_eq_true rfl) rfl (RtI.mono w (fun r5 h5 w => ?_))
          refine g_callSI (n := 2) (As := [aI r4, aI r5]) (st := []) dX11_fall_76 ml_X11_219 rfl rfl (Nat.le_of_ble_eq_true rfl) rfl (RtI.mono w (fun r6 h6 w => ?_))
          exact g_retI dX11_fall_79 rfl w
        · refine g_iload_n dX11_fall_64 rfl ?_
          refine g_goto (tgt := 70) dX11_fall_65 rfl ?_
          refine g_iload_n dX11_fall_70 rfl ?_
          refine g_iload dX11_fall_71 rfl ?_
          refine g_callSI (n := 2) (As := [aI r3, aI r4]) (st := [aI r3]) dX11_fall_73 ml_X11_216 rfl rfl (Nat.le_of_ble_eq_true rfl) rfl (RtI.mono w (fun r7 h7 w => ?_))
          refine g_callSI (n := 2) (As := [aI r3, aI r7]) (st := []) dX11_fall_76 ml_X11_219 rfl rfl (Nat.le_of_ble_eq_true rfl) rfl (RtI.mono w (fun r8 h8 w => ?_))
          exact g_retI dX11_fall_79 rfl w
      · exact w.elim
theorem x_X11_fall {l : Launch} {D : Nat} {ζ : ZP} {h : HI} {x1 x2 : Int} (hl9 : l.stackTraces = false) (hn : 144 ≤ ζ.2.2.2.2) (w : RtI l (D + 5) mX5_hasCell (zz ζ) [aP 3, aI x1] h (fun r1 h1 => (rg r1) ∧ (if r1 = 0 then (h1 = h) else (RtI l (D + 5) mX11_within (zz ζ) [aI x2, aI 0, aI 1] h1 (fun r2 h2 => (rg r2) ∧ (if r2 = 0 then (h2 = h) else ((0 ≤ x1 ∧ x1 < 60) ∧ (rg (h2 27 x1)) ∧ (if 2 ≤ (h2 27 x1) then (False) else (h2 = h))))))))) : RetX l (D + 6) 1 6 mX11_fall (zz ζ) [aP 0, aI x1, aI x2] h := by
  refine RetX.of 2 pn_X11 [aP 0, aI x1, aI x2, aU, aU] rfl rfl ?_
  refine gx_aload_n dX11_fall_0 rfl ?_
  refine gx_getR dX11_fall_1 fl_X11_19 sh_0 (al_0 hn) (fun _ _ _ => rfl) rf_0_1 ?_
  refine gx_iload_n dX11_fall_4 rfl ?_
  refine gx_callVI (n := 1) (As := [aI x1]) (st := []) dX11_fall_5 ml_X11_139 sh_3 rfl (al_3 hn) rfl rfl (Nat.le_of_ble_eq_true rfl) (RtI.mono w (fun r1 h1 w => ?_))
  obtain ⟨o1, w⟩ := w
  refine gx_if_eq (tgt := 33) dX11_fall_8 rfl o1 ?_
  refine ite_imp (fun w => ?_) (fun w => ?_) w
  · exact gx_throw2 (d := D + 6) (mc := 1) (ms := 6) w hl9 rfl dX11_fall_33 dX11_fall_36 dX11_fall_37 dX11_fall_40 (by omega) (Nat.le_of_ble_eq_true rfl) (by decide) (by decide)
  · refine gx_iload_n dX11_fall_11 rfl ?_
    refine gx_iconst dX11_fall_12 ?_
    refine gx_iconst dX11_fall_13 ?_
    refine gx_callSI (n := 3) (As := [aI x2, aI 0, aI 1]) (st := []) dX11_fall_14 ml_X11_145 rfl rfl (Nat.le_of_ble_eq_true rfl) rfl (RtI.mono w (fun r2 h2 w => ?_))
    obtain ⟨o2, w⟩ := w
    refine gx_if_eq (tgt := 33) dX11_fall_17 rfl o2 ?_
    refine ite_imp (fun w => ?_) (fun w => ?_) w
    · exact gx_throw2 (d := D + 6) (mc := 1) (ms := 6) w hl9 rfl dX11_fall_33 dX11_fall_36 dX11_fall_37 dX11_fall_40 (by omega) (Nat.le_of_ble_eq_true rfl) (by decide) (by decide)
    · refine gx_aload_n dX11_fall_20 rfl ?_
      refine gx_getR dX11_fall_21 fl_X11_19 sh_0 (al_0 hn) (fun _ _ _ => rfl) rf_0_1 ?_
      refine gx_getR dX11_fall_24 fl_X11_159 sh_3 (al_3 hn) (fun _ _ _ => rfl) rf_3_11 ?_
      refine gx_iload_n dX11_fall_27 rfl ?_
      obtain ⟨o3, w⟩ := w
      refine gx_iald dX11_fall_28 sh_27 (al_27 hn) (Nat.le_of_ble_eq_true rfl) o3 ?_
      refine gx_iconst dX11_fall_29 ?_
      obtain ⟨o4, w⟩ := w
      refine gx_cmp_ge (tgt := 41) dX11_fall_30 rfl o4 (by decide) ?_
      refine ite_imp (fun w => ?_) (fun w => ?_) w
      · exact w.elim
      · exact gx_throw2 (d := D + 6) (mc := 1) (ms := 6) w hl9 rfl dX11_fall_33 dX11_fall_36 dX11_fall_37 dX11_fall_40 (by omega) (Nat.le_of_ble_eq_true rfl) (by decide) (by decide)
theorem e_X11_row {l : Launch} {D : Nat} {ζ : ZP} {h : HI} {Q : Int → HI → Prop} {x1 x2 x3 : Int} (hn : 144 ≤ ζ.2.2.2.2) (w : RtI l D mX1_has (zz ζ) [aP 10, aI x1] h (fun r1 h1 => (rg r1) ∧ (if r1 = 0 then (False) else ((0 ≤ x1 ∧ x1 < 10) ∧ RtI l D mX11_within (zz ζ) [aI x2, aI 0, aI ((h1 14 x1) - 1)] h1 (fun r2 h2 => (rg r2) ∧ (if r2 = 0 then (False) else (RtI l D mX11_within (zz ζ) [aI x3, aI 0, aI 2] h2 (fun r3 h3 => (rg r3) ∧ (if ¬ r3 = 0 then (RtV l D mX8_refresh (zz ζ) [aP 40, aP 3] h3 (fun h4 => (rg x3) ∧ (if ¬ x3 = 2 then (if ¬ x3 = 0 then (RtI l D mX1_flowOf (zz ζ) [aP 10, aI x1, aI x2, aP 40] h4 (fun r5 h5 => Q r5 h5)) else (RtI l D mX1_holdOf (zz ζ) [aP 10, aI x1, aI x2, aP 40] h4 (fun r6 h6 => Q r6 h6))) else (RtI l D mX1_cyclesOf (zz ζ) [aP 10, aI x1, aI x2, aP 40, aP 4] h4 (fun r7 h7 => Q r7 h7))))) else (False)))))))))) : RtI l (D + 1) mX11_row (zz ζ) [aP 0, aI x1, aI x2, aI x3] h Q := by
  refine RtI.of 0 pn_X11 [aP 0, aI x1, aI x2, aI x3] rfl rfl ?_
  refine g_aload_n dX11_row_0 rfl ?_
  refine g_getR dX11_row_1 fl_X11_19 sh_0 (al_0 hn) (fun _ _ _ => rfl) rf_0_1 ?_
  refine g_getR dX11_row_4 fl_X11_188 sh_3 (al_3 hn) (fun _ _ _ => rfl) rf_3_2 ?_
  refine g_iload_n dX11_row_7 rfl ?_
  refine g_callVI (n := 1) (As := [aI x1]) (st := []) dX11_row_8 ml_X11_323 sh_10 rfl (al_10 hn) rfl rfl (Nat.le_of_ble_eq_true rfl) (RtI.mono w (fun r1 h1 w => ?_))
  obtain ⟨o1, w⟩ := w
  refine g_if_eq (tgt := 45) dX11_row_11 rfl o1 ?_
  refine ite_imp (fun w => ?_) (fun w => ?_) w
  · exact w.elim
  · refine g_iload_n dX11_row_14 rfl ?_
    refine g_iconst dX11_row_15 ?_
    refine g_aload_n dX11_row_16 rfl ?_
    refine g_getR dX11_row_17 fl_X11_19 sh_0 (al_0 hn) (fun _ _ _ => rfl) rf_0_1 ?_
    refine g_getR dX11_row_20 fl_X11_188 sh_3 (al_3 hn) (fun _ _ _ => rfl) rf_3_2 ?_
    refine g_getR dX11_row_23 fl_X11_326 sh_10 (al_10 hn) (fun _ _ _ => rfl) rf_10_4 ?_
    refine g_iload_n dX11_row_26 rfl ?_
    obtain ⟨o2, w⟩ := w
    refine g_iald dX11_row_27 sh_14 (al_14 hn) (Nat.le_of_ble_eq_true rfl) o2 ?_
    refine g_iconst dX11_row_28 ?_
    refine g_isub dX11_row_29 ?_
    refine g_callSI (n := 3) (As := [aI x2, aI 0, aI ((h1 14 x1) - 1)]) (st := []) dX11_row_30 ml_X11_145 rfl rfl (Nat.le_of_ble_eq_true rfl) rfl (RtI.mono w (fun r2 h2 w => ?_))
    obtain ⟨o3, w⟩ := w
    refine g_if_eq (tgt := 45) dX11_row_33 rfl o3 ?_
    refine ite_imp (fun w => ?_) (fun w => ?_) w
    · exact w.elim
    · refine g_iload_n dX11_row_36 rfl ?_
      refine g_iconst dX11_row_37 ?_
      refine g_iconst dX11_row_38 ?_
      refine g_callSI (n := 3) (As := [aI x3, aI 0, aI 2]) (st := []) dX11_row_39 ml_X11_145 rfl rfl (Nat.le_of_ble_eq_true rfl) rfl (RtI.mono w (fun r3 h3 w => ?_))
      obtain ⟨o4, w⟩ := w
      refine g_if_ne (tgt := 53) dX11_row_42 rfl o4 ?_
      refine ite_imp (fun w => ?_) (fun w => ?_) w
      · refine g_aload_n dX11_row_53 rfl ?_
        refine g_getR dX11_row_54 fl_X11_44 sh_0 (al_0 hn) (fun _ _ _ => rfl) rf_0_5 ?_
        refine g_aload_n dX11_row_57 rfl ?_
        refine g_getR dX11_row_58 fl_X11_19 sh_0 (al_0 hn) (fun _ _ _ => rfl) rf_0_1 ?_
        refine g_callVV (n := 1) (As := [aP 3]) (st := []) dX11_row_61 ml_X11_171 sh_40 rfl (al_40 hn) rfl rfl (Nat.le_of_ble_eq_true rfl) (RtV.mono w (fun h4 w => ?_))
        refine g_iload_n dX11_row_64 rfl ?_
        refine g_iconst dX11_row_65 ?_
        obtain ⟨o5, w⟩ := w
        refine g_cmp_ne (tgt := 93) dX11_row_66 rfl o5 (by decide) ?_
        refine ite_imp (fun w => ?_) (fun w => ?_) w
        · refine g_iload_n dX11_row_93 rfl ?_
          refine g_if_ne (tgt := 116) dX11_row_94 rfl o5 ?_
          refine ite_imp (fun w => ?_) (fun w => ?_) w
          · refine g_aload_n dX11_row_116 rfl ?_
            refine g_getR dX11_row_117 fl_X11_19 sh_0 (al_0 hn) (fun _ _ _ => rfl) rf_0_1 ?_
            refine g_getR dX11_row_120 fl_X11_188 sh_3 (al_3 hn) (fun _ _ _ => rfl) rf_3_2 ?_
            refine g_iload_n dX11_row_123 rfl ?_
            refine g_iload_n dX11_row_124 rfl ?_
            refine g_aload_n dX11_row_125 rfl ?_
            refine g_getR dX11_row_126 fl_X11_44 sh_0 (al_0 hn) (fun _ _ _ => rfl) rf_0_5 ?_
            refine g_callVI (n := 3) (As := [aI x1, aI x2, aP 40]) (st := []) dX11_row_129 ml_X11_337 sh_10 rfl (al_10 hn) rfl rfl (Nat.le_of_ble_eq_true rfl) (RtI.mono w (fun r5 h5 w => ?_))
            exact g_retI dX11_row_132 rfl w
          · refine g_aload_n dX11_row_97 rfl ?_
            refine g_getR dX11_row_98 fl_X11_19 sh_0 (al_0 hn) (fun _ _ _ => rfl) rf_0_1 ?_
            refine g_getR dX11_row_101 fl_X11_188 sh_3 (al_3 hn) (fun _ _ _ => rfl) rf_3_2 ?_
            refine g_iload_n dX11_row_104 rfl ?_
            refine g_iload_n dX11_row_105 rfl ?_
            refine g_aload_n dX11_row_106 rfl ?_
            refine g_getR dX11_row_107 fl_X11_44 sh_0 (al_0 hn) (fun _ _ _ => rfl) rf_0_5 ?_
            refine g_callVI (n := 3) (As := [aI x1, aI x2, aP 40]) (st := []) dX11_row_110 ml_X11_333 sh_10 rfl (al_10 hn) rfl rfl (Nat.le_of_ble_eq_true rfl) (RtI.mono w (fun r6 h6 w => ?_))
            refine g_goto (tgt := 132) dX11_row_113 rfl ?_
            exact g_retI dX11_row_132 rfl w
        · refine g_aload_n dX11_row_69 rfl ?_
          refine g_getR dX11_row_70 fl_X11_19 sh_0 (al_0 hn) (fun _ _ _ => rfl) rf_0_1 ?_
          refine g_getR dX11_row_73 fl_X11_188 sh_3 (al_3 hn) (fun _ _ _ => rfl) rf_3_2 ?_
          refine g_iload_n dX11_row_76 rfl ?_
          refine g_iload_n dX11_row_77 rfl ?_
          refine g_aload_n dX11_row_78 rfl ?_
          refine g_getR dX11_row_79 fl_X11_44 sh_0 (al_0 hn) (fun _ _ _ => rfl) rf_0_5 ?_
          refine g_aload_n dX11_row_82 rfl ?_
          refine g_getR dX11_row_83 fl_X11_19 sh_0 (al_0 hn) (fun _ _ _ => rfl) rf_0_1 ?_
          refine g_getR dX11_row_86 fl_X11_128 sh_3 (al_3 hn) (fun _ _ _ => rfl) rf_3_0 ?_
          refine g_callVI (n := 4) (As := [aI x1, aI x2, aP 40, aP 4]) (st := []) dX11_row_89 ml_X11_329 sh_10 rfl (al_10 hn) rfl rfl (Nat.le_of_ble_eq_true rfl) (RtI.mono w (fun r7 h7 w => ?_))
          exact g_retI dX11_row_92 rfl w
      · exact w.elim
theorem x_X11_row {l : Launch} {D : Nat} {ζ : ZP} {h : HI} {x1 x2 x3 : Int} (hl9 : l.stackTraces = false) (hn : 144 ≤ ζ.2.2.2.2) (w : RtI l (D + 5) mX1_has (zz ζ) [aP 10, aI x1] h (fun r1 h1 => (rg r1) ∧ (if r1 = 0 then (h1 = h) else ((0 ≤ x1 ∧ x1 < 10) ∧ RtI l (D + 5) mX11_within (zz ζ) [aI x2, aI 0, aI ((h1 14 x1) - 1)] h1 (fun r2 h2 => (rg r2) ∧ (if r2 = 0 then (h2 = h) else (RtI l (D + 5) mX11_within (zz ζ) [aI x3, aI 0, aI 2] h2 (fun r3 h3 => (rg r3) ∧ (if ¬ r3 = 0 then (False) else (h3 = h)))))))))) : RetX l (D + 6) 1 6 mX11_row (zz ζ) [aP 0, aI x1, aI x2, aI x3] h := by
  refine RetX.of 0 pn_X11 [aP 0, aI x1, aI x2, aI x3] rfl rfl ?_
  refine gx_aload_n dX11_row_0 rfl ?_
  refine gx_getR dX11_row_1 fl_X11_19 sh_0 (al_0 hn) (fun _ _ _ => rfl) rf_0_1 ?_
  refine gx_getR dX11_row_4 fl_X11_188 sh_3 (al_3 hn) (fun _ _ _ => rfl) rf_3_2 ?_
  refine gx_iload_n dX11_row_7 rfl ?_
  refine gx_callVI (n := 1) (As := [aI x1]) (st := []) dX11_row_8 ml_X11_323 sh_10 rfl (al_10 hn) rfl rfl (Nat.le_of_ble_eq_true rfl) (RtI.mono w (fun r1 h1 w => ?_))
  obtain ⟨o1, w⟩ := w
  refine gx_if_eq (tgt := 45) dX11_row_11 rfl o1 ?_
  refine ite_imp (fun w => ?_) (fun w => ?_) w
  · exact gx_throw2 (d := D + 6) (mc := 1) (ms := 6) w hl9 rfl dX11_row_45 dX11_row_48 dX11_row_49 dX11_row_52 (by omega) (Nat.le_of_ble_eq_true rfl) (by decide) (by decide)
  · refine gx_iload_n dX11_row_14 rfl ?_
    refine gx_iconst dX11_row_15 ?_
    refine gx_aload_n dX11_row_16 rfl ?_
    refine gx_getR dX11_row_17 fl_X11_19 sh_0 (al_0 hn) (fun _ _ _ => rfl) rf_0_1 ?_
    refine gx_getR dX11_row_20 fl_X11_188 sh_3 (al_3 hn) (fun _ _ _ => rfl) rf_3_2 ?_
    refine gx_getR dX11_row_23 fl_X11_326 sh_10 (al_10 hn) (fun _ _ _ => rfl) rf_10_4 ?_
    refine gx_iload_n dX11_row_26 rfl ?_
    obtain ⟨o2, w⟩ := w
    refine gx_iald dX11_row_27 sh_14 (al_14 hn) (Nat.le_of_ble_eq_true rfl) o2 ?_
    refine gx_iconst dX11_row_28 ?_
    refine gx_isub dX11_row_29 ?_
    refine gx_callSI (n := 3) (As := [aI x2, aI 0, aI ((h1 14 x1) - 1)]) (st := []) dX11_row_30 ml_X11_145 rfl rfl (Nat.le_of_ble_eq_true rfl) rfl (RtI.mono w (fun r2 h2 w => ?_))
    obtain ⟨o3, w⟩ := w
    refine gx_if_eq (tgt := 45) dX11_row_33 rfl o3 ?_
    refine ite_imp (fun w => ?_) (fun w => ?_) w
    · exact gx_throw2 (d := D + 6) (mc := 1) (ms := 6) w hl9 rfl dX11_row_45 dX11_row_48 dX11_row_49 dX11_row_52 (by omega) (Nat.le_of_ble_eq_true rfl) (by decide) (by decide)
    · refine gx_iload_n dX11_row_36 rfl ?_
      refine gx_iconst dX11_row_37 ?_
      refine gx_iconst dX11_row_38 ?_
      refine gx_callSI (n := 3) (As := [aI x3, aI 0, aI 2]) (st := []) dX11_row_39 ml_X11_145 rfl rfl (Nat.le_of_ble_eq_true rfl) rfl (RtI.mono w (fun r3 h3 w => ?_))
      obtain ⟨o4, w⟩ := w
      refine gx_if_ne (tgt := 53) dX11_row_42 rfl o4 ?_
      refine ite_imp (fun w => ?_) (fun w => ?_) w
      · exact w.elim
      · exact gx_throw2 (d := D + 6) (mc := 1) (ms := 6) w hl9 rfl dX11_row_45 dX11_row_48 dX11_row_49 dX11_row_52 (by omega) (Nat.le_of_ble_eq_true rfl) (by decide) (by decide)
abbrev mL_lean : MT := (yL_lean, cL_lean, 5, (some .int))
set_option maxRecDepth 20000 in
theorem mw_L_lean : MLw RL 62 mL_lean [(0, 10, 13, 13)] 4 := ⟨by decide +kernel, by decide +kernel, by decide +kernel, by decide, by decide +kernel, by decide +kernel⟩
theorem n_L_lean {l : Launch} {D : Nat} {ζ : ZP} {h : HI} {Q : Int → HI → Prop} {x1 x2 : Int} (hn : 144 ≤ ζ.2.2.2.2) (w : RtI l D mX11_lean (zz ζ) [aP 0, aI x1, aI x2] h (fun r1 h1 => (rg r1) ∧ Q 0 (hu h1 143 0 r1))) : RetW l (D + 1) 0 0 mL_lean [(0, 10, 13, 13)] (zz ζ) [aP 0, aI x1, aI x2, aP 143] h (qI (zz ζ) Q) := by
  refine RetW.of 1 pn_L [aP 0, aI x1, aI x2, aP 143, aU] rfl rfl (gh_g ?_)
  refine g_aload_n dL_lean_0 rfl ?_
  refine g_iconst dL_lean_1 ?_
  refine g_aload_n dL_lean_2 rfl ?_
  refine g_iload_n dL_lean_3 rfl ?_
  refine g_iload_n dL_lean_4 rfl ?_
  refine g_callVI (n := 2) (As := [aI x1, aI x2]) (st := [aI 0, aP 143]) dL_lean_5 ml_L_7 sh_0 rfl (al_0 hn) rfl rfl (Nat.le_of_ble_eq_true rfl) (RtI.mono w (fun r1 h1 w => ?_))
  obtain ⟨o1, w⟩ := w
  refine g_i2l dL_lean_8 o1 ?_
  refine g_last dL_lean_9 sh_143 (al_143 hn) (Nat.le_of_ble_eq_true rfl) (by decide) ?_
  refine g_goto (tgt := 17) dL_lean_10 rfl ?_
  refine g_iconst dL_lean_17 ?_
  exact g_retI dL_lean_18 rfl w
theorem x_L_lean {l : Launch} {D : Nat} {ζ : ZP} {h : HI} {Q : Int → HI → Prop} {x1 x2 : Int} (hn : 144 ≤ ζ.2.2.2.2) (hr : RetX l D 1 6 mX11_lean (zz ζ) (aP 0 :: [aI x1, aI x2]) h) (w : Q 1 h) : RetW l (D + 1) 1 6 mL_lean [(0, 10, 13, 13)] (zz ζ) [aP 0, aI x1, aI x2, aP 143] h (qI (zz ζ) Q) := by
  refine RetW.of 1 pn_L [aP 0, aI x1, aI x2, aP 143, aU] rfl rfl ?_
  refine gh_aload_n dL_lean_0 rfl ?_
  refine gh_iconst dL_lean_1 ?_
  refine gh_aload_n dL_lean_2 rfl ?_
  refine gh_iload_n dL_lean_3 rfl ?_
  refine gh_iload_n dL_lean_4 rfl ?_
  refine gh_callX (n := 2) (As := [aI x1, aI x2]) (st := [aI 0, aP 143]) (mc' := 1) (ms' := 6) (mcR := 0) (msR := 0) (q5 := 4) dL_lean_5 ml_L_7 sh_0 rfl (al_0 hn) rfl rfl (Nat.le_of_ble_eq_true rfl) rfl rfl rfl rfl rfl dL_lean_13 (by decide) rfl rfl hr ?_
  refine g_iconst dL_lean_15 ?_
  exact g_retI dL_lean_16 rfl w
abbrev mL_about : MT := (yL_about, cL_about, 5, (some .int))
set_option maxRecDepth 20000 in
theorem mw_L_about : MLw RL 71 mL_about [(0, 10, 13, 13)] 4 := ⟨by decide +kernel, by decide +kernel, by decide +kernel, by decide, by decide +kernel, by decide +kernel⟩
theorem n_L_about {l : Launch} {D : Nat} {ζ : ZP} {h : HI} {Q : Int → HI → Prop} {x1 x2 : Int} (hn : 144 ≤ ζ.2.2.2.2) (w : RtI l D mX11_about (zz ζ) [aP 0, aI x1, aI x2] h (fun r1 h1 => (rg r1) ∧ Q 0 (hu h1 143 0 r1))) : RetW l (D + 1) 0 0 mL_about [(0, 10, 13, 13)] (zz ζ) [aP 0, aI x1, aI x2, aP 143] h (qI (zz ζ) Q) := by
  refine RetW.of 1 pn_L [aP 0, aI x1, aI x2, aP 143, aU] rfl rfl (gh_g ?_)
  refine g_aload_n dL_about_0 rfl ?_
  refine g_iconst dL_about_1 ?_
  refine g_aload_n dL_about_2 rfl ?_
  refine g_iload_n dL_about_3 rfl ?_
  refine g_iload_n dL_about_4 rfl ?_
  refine g_callVI (n := 2) (As := [aI x1, aI x2]) (st := [aI 0, aP 143]) dL_about_5 ml_L_15 sh_0 rfl (al_0 hn) rfl rfl (Nat.le_of_ble_eq_true rfl) (RtI.mono w (fun r1 h1 w => ?_))
  obtain ⟨o1, w⟩ := w
  refine g_i2l dL_about_8 o1 ?_
  refine g_last dL_about_9 sh_143 (al_143 hn) (Nat.le_of_ble_eq_true rfl) (by decide) ?_
  refine g_goto (tgt := 17) dL_about_10 rfl ?_
  refine g_iconst dL_about_17 ?_
  exact g_retI dL_about_18 rfl w
theorem x_L_about {l : Launch} {D : Nat} {ζ : ZP} {h : HI} {Q : Int → HI → Prop} {x1 x2 : Int} (hn : 144 ≤ ζ.2.2.2.2) (hr : RetX l D 1 6 mX11_about (zz ζ) (aP 0 :: [aI x1, aI x2]) h) (w : Q 1 h) : RetW l (D + 1) 1 6 mL_about [(0, 10, 13, 13)] (zz ζ) [aP 0, aI x1, aI x2, aP 143] h (qI (zz ζ) Q) := by
  refine RetW.of 1 pn_L [aP 0, aI x1, aI x2, aP 143, aU] rfl rfl ?_
  refine gh_aload_n dL_about_0 rfl ?_
  refine gh_iconst dL_about_1 ?_
  refine gh_aload_n dL_about_2 rfl ?_
  refine gh_iload_n dL_about_3 rfl ?_
  refine gh_iload_n dL_about_4 rfl ?_
  refine gh_callX (n := 2) (As := [aI x1, aI x2]) (st := [aI 0, aP 143]) (mc' := 1) (ms' := 6) (mcR := 0) (msR := 0) (q5 := 4) dL_about_5 ml_L_15 sh_0 rfl (al_0 hn) rfl rfl (Nat.le_of_ble_eq_true rfl) rfl rfl rfl rfl rfl dL_about_13 (by decide) rfl rfl hr ?_
  refine g_iconst dL_about_15 ?_
  exact g_retI dL_about_16 rfl w
abbrev mL_fall : MT := (yL_fall, cL_fall, 5, (some .int))
set_option maxRecDepth 20000 in
theorem mw_L_fall : MLw RL 78 mL_fall [(0, 10, 13, 13)] 4 := ⟨by decide +kernel, by decide +kernel, by decide +kernel, by decide, by decide +kernel, by decide +kernel⟩
theorem n_L_fall {l : Launch} {D : Nat} {ζ : ZP} {h : HI} {Q : Int → HI → Prop} {x1 x2 : Int} (hn : 144 ≤ ζ.2.2.2.2) (w : RtI l D mX11_fall (zz ζ) [aP 0, aI x1, aI x2] h (fun r1 h1 => (rg r1) ∧ Q 0 (hu h1 143 0 r1))) : RetW l (D + 1) 0 0 mL_fall [(0, 10, 13, 13)] (zz ζ) [aP 0, aI x1, aI x2, aP 143] h (qI (zz ζ) Q) := by
  refine RetW.of 1 pn_L [aP 0, aI x1, aI x2, aP 143, aU] rfl rfl (gh_g ?_)
  refine g_aload_n dL_fall_0 rfl ?_
  refine g_iconst dL_fall_1 ?_
  refine g_aload_n dL_fall_2 rfl ?_
  refine g_iload_n dL_fall_3 rfl ?_
  refine g_iload_n dL_fall_4 rfl ?_
  refine g_callVI (n := 2) (As := [aI x1, aI x2]) (st := [aI 0, aP 143]) dL_fall_5 ml_L_18 sh_0 rfl (al_0 hn) rfl rfl (Nat.le_of_ble_eq_true rfl) (RtI.mono w (fun r1 h1 w => ?_))
  obtain ⟨o1, w⟩ := w
  refine g_i2l dL_fall_8 o1 ?_
  refine g_last dL_fall_9 sh_143 (al_143 hn) (Nat.le_of_ble_eq_true rfl) (by decide) ?_
  refine g_goto (tgt := 17) dL_fall_10 rfl ?_
  refine g_iconst dL_fall_17 ?_
  exact g_retI dL_fall_18 rfl w
theorem x_L_fall {l : Launch} {D : Nat} {ζ : ZP} {h : HI} {Q : Int → HI → Prop} {x1 x2 : Int} (hn : 144 ≤ ζ.2.2.2.2) (hr : RetX l D 1 6 mX11_fall (zz ζ) (aP 0 :: [aI x1, aI x2]) h) (w : Q 1 h) : RetW l (D + 1) 1 6 mL_fall [(0, 10, 13, 13)] (zz ζ) [aP 0, aI x1, aI x2, aP 143] h (qI (zz ζ) Q) := by
  refine RetW.of 1 pn_L [aP 0, aI x1, aI x2, aP 143, aU] rfl rfl ?_
  refine gh_aload_n dL_fall_0 rfl ?_
  refine gh_iconst dL_fall_1 ?_
  refine gh_aload_n dL_fall_2 rfl ?_
  refine gh_iload_n dL_fall_3 rfl ?_
  refine gh_iload_n dL_fall_4 rfl ?_
  refine gh_callX (n := 2) (As := [aI x1, aI x2]) (st := [aI 0, aP 143]) (mc' := 1) (ms' := 6) (mcR := 0) (msR := 0) (q5 := 4) dL_fall_5 ml_L_18 sh_0 rfl (al_0 hn) rfl rfl (Nat.le_of_ble_eq_true rfl) rfl rfl rfl rfl rfl dL_fall_13 (by decide) rfl rfl hr ?_
  refine g_iconst dL_fall_15 ?_
  exact g_retI dL_fall_16 rfl w
abbrev mL_row : MT := (yL_row, cL_row, 6, (some .int))
set_option maxRecDepth 20000 in
theorem mw_L_row : MLw RL 137 mL_row [(0, 12, 15, 13)] 5 := ⟨by decide +kernel, by decide +kernel, by decide +kernel, by decide, by decide +kernel, by decide +kernel⟩
theorem n_L_row {l : Launch} {D : Nat} {ζ : ZP} {h : HI} {Q : Int → HI → Prop} {x1 x2 x3 : Int} (hn : 144 ≤ ζ.2.2.2.2) (w : RtI l D mX11_row (zz ζ) [aP 0, aI x1, aI x2, aI x3] h (fun r1 h1 => (rg r1) ∧ Q 0 (hu h1 143 0 r1))) : RetW l (D + 1) 0 0 mL_row [(0, 12, 15, 13)] (zz ζ) [aP 0, aI x1, aI x2, aI x3, aP 143] h (qI (zz ζ) Q) := by
  refine RetW.of 1 pn_L [aP 0, aI x1, aI x2, aI x3, aP 143, aU] rfl rfl (gh_g ?_)
  refine g_aload dL_row_0 rfl ?_
  refine g_iconst dL_row_2 ?_
  refine g_aload_n dL_row_3 rfl ?_
  refine g_iload_n dL_row_4 rfl ?_
  refine g_iload_n dL_row_5 rfl ?_
  refine g_iload_n dL_row_6 rfl ?_
  refine g_callVI (n := 3) (As := [aI x1, aI x2, aI x3]) (st := [aI 0, aP 143]) dL_row_7 ml_L_21 sh_0 rfl (al_0 hn) rfl rfl (Nat.le_of_ble_eq_true rfl) (RtI.mono w (fun r1 h1 w => ?_))
  obtain ⟨o1, w⟩ := w
  refine g_i2l dL_row_10 o1 ?_
  refine g_last dL_row_11 sh_143 (al_143 hn) (Nat.le_of_ble_eq_true rfl) (by decide) ?_
  refine g_goto (tgt := 19) dL_row_12 rfl ?_
  refine g_iconst dL_row_19 ?_
  exact g_retI dL_row_20 rfl w
theorem x_L_row {l : Launch} {D : Nat} {ζ : ZP} {h : HI} {Q : Int → HI → Prop} {x1 x2 x3 : Int} (hn : 144 ≤ ζ.2.2.2.2) (hr : RetX l D 1 6 mX11_row (zz ζ) (aP 0 :: [aI x1, aI x2, aI x3]) h) (w : Q 1 h) : RetW l (D + 1) 1 6 mL_row [(0, 12, 15, 13)] (zz ζ) [aP 0, aI x1, aI x2, aI x3, aP 143] h (qI (zz ζ) Q) := by
  refine RetW.of 1 pn_L [aP 0, aI x1, aI x2, aI x3, aP 143, aU] rfl rfl ?_
  refine gh_aload dL_row_0 rfl ?_
  refine gh_iconst dL_row_2 ?_
  refine gh_aload_n dL_row_3 rfl ?_
  refine gh_iload_n dL_row_4 rfl ?_
  refine gh_iload_n dL_row_5 rfl ?_
  refine gh_iload_n dL_row_6 rfl ?_
  refine gh_callX (n := 3) (As := [aI x1, aI x2, aI x3]) (st := [aI 0, aP 143]) (mc' := 1) (ms' := 6) (mcR := 0) (msR := 0) (q5 := 5) dL_row_7 ml_L_21 sh_0 rfl (al_0 hn) rfl rfl (Nat.le_of_ble_eq_true rfl) rfl rfl rfl rfl rfl dL_row_15 (by decide) rfl rfl hr ?_
  refine g_iconst dL_row_17 ?_
  exact g_retI dL_row_18 rfl w
