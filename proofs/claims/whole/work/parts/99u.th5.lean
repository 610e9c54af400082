/-! the calls that may throw: lean, about, row -/
def OpT (l : Launch) (D : Nat) (ζ : ZP) (mx mm : MT) (as : List AV) (h : HI) : Prop := (RetX l D 1 6 mx (zz ζ) (aP 0 :: as) h ∧ RtI l D mm (zz ζ) (aP 97 :: as) h (fun _ h2 => h2 97 0 = 1 ∧ h2 1000003 = h 1000003 ∧ h2 1000004 = h 1000004 ∧ Inv ζ h2)) ∨ RtI l D mx (zz ζ) (aP 0 :: as) h (fun r1 h1 => h1 1000003 = h 1000003 ∧ h1 1000004 = h 1000004 ∧ rg r1 ∧ RtI l D mm (zz ζ) (aP 97 :: as) (hu h1 143 0 r1) (fun r2 h2 => rg r2 ∧ r1 = r2 ∧ h2 97 0 = 0 ∧ h2 143 0 = r1 ∧ h2 1000003 = h 1000003 ∧ h2 1000004 = h 1000004 ∧ Inv ζ h2))
section TH5
variable {l : Launch} {D : Nat} {ζ : ZP} {h : HI} {Q : Int → HI → Prop} {x y w : Int}
theorem s_thr1 (hn : 144 ≤ ζ.2.2.2.2) (hq : Q 1 (hu h 97 0 1)) : RtI l (D + 1) mX12_throwsIf (zz ζ) [aP 97, aI 1] h Q := e_X12_throwsIf hn ⟨by decide, iteN (by decide) ⟨Or.inr rfl, hq⟩⟩
theorem s_thr0 (hn : 144 ≤ ζ.2.2.2.2) (hq : Q 0 (hu h 97 0 0)) : RtI l (D + 1) mX12_throwsIf (zz ζ) [aP 97, aI 0] h Q := e_X12_throwsIf hn ⟨by decide, iteP rfl ⟨Or.inl rfl, hq⟩⟩
theorem ot_thr (i : Inv ζ h) : (hu h 97 0 1) 97 0 = 1 ∧ (hu h 97 0 1) 1000003 = h 1000003 ∧ (hu h 97 0 1) 1000004 = h 1000004 ∧ Inv ζ (hu h 97 0 1) := ⟨hu_s _ _ _ _, FL.th.c _ rfl, FL.th.c _ rfl, i.fl FL.th rfl⟩
theorem ot_fin {k : HI} {g : HI} {L : List (Nat × Int)} {r1 r2 : Int} (i : Inv ζ g) (e3 : g 1000003 = h 1000003) (e4 : g 1000004 = h 1000004) (e : r1 = r2) (gr : rg r1) (f : FL L g k) (c : (kpL [] L && ktL L) = true) (t0 : k 97 0 = 0) (o : k 143 0 = r1) : rg r2 ∧ r1 = r2 ∧ k 97 0 = 0 ∧ k 143 0 = r1 ∧ k 1000003 = h 1000003 ∧ k 1000004 = h 1000004 ∧ Inv ζ k := by
  have q := op_fin i e gr f c
  exact ⟨q.2.1, e, t0, o, by rw [q.2.2.2.1, e3], by rw [q.2.2.2.2.1, e4], q.2.2.2.2.2⟩
theorem op_lean (hl9 : l.stackTraces = false) (i : Inv ζ h) (rx : rg x) (ry : rg y) : OpT l (D + 60) ζ mX11_lean mX12_lean [aI x, aI y] h := by
  have hn := ζok_n i.1.1
  have sr : SR (stk 3 h) (h 99) (h 101) := i.1.2 2
  have ok := sr.2.2.1.2.1
  have a1 : h 99 0 = h 4 3 ∧ 0 ≤ h 4 3 ∧ h 4 3 ≤ 6 := ⟨sr.1.1.2.2, sr.1.1.1, sr.1.1.2.1⟩
  have rb : rg (h 4 3) := by constructor <;> omega
  have rb1 : rg (h 99 0 - 1) := by constructor <;> omega
  have thr : ∀ (g : HI), g = h → ∀ (Q : Int → HI → Prop), Q 0 (hu h 97 0 1) → G l (D + 60) 0 0 mX12_lean (zz ζ) 31 [aP 97, aI x, aI y] [aI 1, aP 97] g (qI (zz ζ) Q) := fun g eg Q hQ => by
    subst eg
    exact b_X12_lean_31 hn (s_thr1 hn ⟨by decide, iteN (by decide) hQ⟩)
  by_cases c1 : 0 ≤ x ∧ x ≤ h 4 3 - 1
  · by_cases c2 : 0 ≤ y ∧ y ≤ 2
    · right
      refine e_X11_lean hn (s_hasBench hn rx rb ?_)
      rw [if_pos c1]
      refine ⟨by decide, iteN (by decide) (s_within hn ry (by decide) (by decide) ?_)⟩
      rw [if_pos c2]
      refine ⟨by decide, iteP (by decide) (i_refresh i (fun g f ig z ts tx => ?_))⟩
      have tb := tru_bd ok x c1.1 (by omega)
      have t1 := ts.1 x c1.1 (by omega)
      have t2 := ts.2.1 x c1.1 (by omega)
      have t3 := ts.2.2 x c1.1 (by omega)
      have mm : ∀ r1 : Int, rg r1 → r1 = (if y = 0 then (tru (td (stk 3 h))).2.1 x else if y = 1 then (tru (td (stk 3 h))).2.2 x else (tru (td (stk 3 h))).1 x) → g 1000003 = h 1000003 ∧ g 1000004 = h 1000004 ∧ rg r1 ∧ RtI l (D + 60) mX12_lean (zz ζ) [aP 97, aI x, aI y] (hu g 143 0 r1) (fun r2 h2 => rg r2 ∧ r1 = r2 ∧ h2 97 0 = 0 ∧ h2 143 0 = r1 ∧ h2 1000003 = h 1000003 ∧ h2 1000004 = h 1000004 ∧ Inv ζ h2) := by
        intro r1 g1 er
        have k99 : (hu g 143 0 r1) 99 = h 99 := by rw [hu_c _ _ _ (by decide), f.c 99 rfl]
        refine ⟨f.c _ rfl, f.c _ rfl, g1, e_X12_lean hn ?_⟩
        rw [k99, a1.1]
        refine s_isIn hn rx (by decide) (by constructor <;> omega) ?_
        rw [if_pos c1]
        refine ⟨by decide, iteN (by decide) (s_isIn hn ry (by decide) (by decide) ?_)⟩
        rw [if_pos c2]
        refine ⟨by decide, iteP (by decide) (b_X12_lean_31 hn (s_thr0 hn ⟨by decide, iteP rfl (i_settle i (by rw [hu_c _ _ _ (by decide), k99]) (fun k fm tsm tm => ⟨ry, ?_⟩))⟩))⟩
        have FG : FL ((97, 0) :: (143, -1) :: LM) g k := ((FL.refl.ua rfl).u rfl).trans (fm.mono rfl)
        have fin : ∀ r2, r1 = r2 → rg r2 ∧ r1 = r2 ∧ k 97 0 = 0 ∧ k 143 0 = r1 ∧ k 1000003 = h 1000003 ∧ k 1000004 = h 1000004 ∧ Inv ζ k := fun r2 e => ot_fin ig (f.c _ rfl) (f.c _ rfl) e g1 FG rfl (by rw [fm.at 97 0 rfl, hu_s]) (by rw [fm.c 143 rfl, hu_c _ _ _ (by decide), hu_s])
        have m1 := tsm.1 x c1.1 (by omega)
        have m2 := tsm.2.1 x c1.1 (by omega)
        have m3 := tsm.2.2 x c1.1 (by omega)
        refine iteI (fun y0 => iteI (fun y1 => ⟨⟨c1.1, by omega⟩, by rw [m1]; rcases tb.1 with q | q <;> rw [q] <;> decide, ?_⟩) (fun y1 => ⟨⟨c1.1, by omega⟩, fin _ ?_⟩)) (fun y0 => ⟨⟨c1.1, by omega⟩, fin _ ?_⟩)
        · rw [m1]
          rw [if_neg y0, if_neg y1] at er
          rcases tb.1 with q | q
          · rw [q] at er ⊢
            exact iteP rfl (fin _ er)
          · rw [q] at er ⊢
            exact iteN (by decide) (fin _ er)
        · rw [m3, er, if_neg y0, if_pos (Classical.not_not.mp y1)]
        · rw [m2, er, if_pos (Classical.not_not.mp y0)]
      refine ⟨ry, iteI (fun y2 => iteI (fun y0 => ⟨⟨c1.1, by omega⟩, mm _ (by rw [t3]; constructor <;> omega) ?_⟩) (fun y0 => ⟨⟨c1.1, by omega⟩, mm _ (by rw [t2]; constructor <;> omega) ?_⟩)) (fun y2 => ⟨⟨c1.1, by omega⟩, by rw [t1]; rcases tb.1 with q | q <;> rw [q] <;> decide, ?_⟩)⟩
      · rw [t3, if_neg y0, if_pos (by omega)]
      · rw [t2, if_pos (by omega)]
      · rw [t1]
        rcases tb.1 with q | q
        · rw [q]
          exact iteP rfl (mm _ (by decide) (by rw [if_neg (by omega), if_neg (by omega), q]))
        · rw [q]
          exact iteN (by decide) (mm _ (by decide) (by rw [if_neg (by omega), if_neg (by omega), q]))
    · left
      refine ⟨x_X11_lean (D := D + 54) hl9 hn (s_hasBench hn rx rb ?_), e_X12_lean hn ?_⟩
      · rw [if_pos c1]
        refine ⟨by decide, iteN (by decide) (s_within hn ry (by decide) (by decide) ?_)⟩
        rw [if_neg c2]
        exact ⟨by decide, iteN (by decide) rfl⟩
      · refine s_isIn hn rx (by decide) rb1 ?_
        rw [a1.1, if_pos c1]
        refine ⟨by decide, iteN (by decide) (s_isIn hn ry (by decide) (by decide) ?_)⟩
        rw [if_neg c2]
        exact ⟨by decide, iteN (by decide) (thr h rfl _ (ot_thr i))⟩
  · left
    refine ⟨x_X11_lean (D := D + 54) hl9 hn (s_hasBench hn rx rb ?_), e_X12_lean hn ?_⟩
    · rw [if_neg c1]
      exact ⟨by decide, iteP rfl rfl⟩
    · refine s_isIn hn rx (by decide) rb1 ?_
      rw [a1.1, if_neg c1]
      exact ⟨by decide, iteP rfl (thr h rfl _ (ot_thr i))⟩
theorem op_about (hl9 : l.stackTraces = false) (i : Inv ζ h) (rx : rg x) (ry : rg y) : OpT l (D + 60) ζ mX11_about mX12_about [aI x, aI y] h := by
  have hn := ζok_n i.1.1
  have sr : SR (stk 3 h) (h 99) (h 101) := i.1.2 2
  have ok := sr.2.2.1.2.1
  have a2 : h 99 11 = h 3 3 ∧ 0 ≤ h 3 3 ∧ h 3 3 ≤ 60 := ⟨sr.2.1.1.2.2, sr.2.1.1.1, sr.2.1.1.2.1⟩
  have rb : rg (h 3 3) := by constructor <;> omega
  have rb1 : rg (h 99 11 - 1) := by constructor <;> omega
  have thr : ∀ (g : HI), g = h → ∀ (Q : Int → HI → Prop), Q 0 (hu h 97 0 1) → G l (D + 60) 0 0 mX12_about (zz ζ) 23 [aP 97, aI x, aI y] [aI 1, aP 97] g (qI (zz ζ) Q) := fun g eg Q hQ => by
    subst eg
    exact b_X12_about_23 hn (s_thr1 hn ⟨by decide, iteN (by decide) hQ⟩)
  by_cases c1 : 0 ≤ x ∧ x ≤ h 3 3 - 1
  · by_cases c2 : 0 ≤ y ∧ y ≤ 5
    · right
      have b := tv_bd ok x
      have sb := tS_bd ok x
      have bx := sr.2.1.2 x c1.1 (by show x < h 3 3; omega)
      have bx1 : h 99 (17 + x) = h 22 x ∧ 0 ≤ h 22 x ∧ h 22 x < h 4 4 := bx
      have b8 : h 4 4 ≤ 8 := sr.1.2.1.2.1
      have pk1 := sr.2.2.2.2.1.2.2.2.1 x c1.1 (by show x < h 3 3; omega)
      have pk2 : -1 ≤ h 11 x ∧ h 11 x < h 10 0 := ⟨pk1.1, pk1.2.1⟩
      have p10 : h 10 0 ≤ 10 := sr.2.2.2.2.1.1.2.1
      have fb : tP (stk 3 h) x ≠ 0 → 0 ≤ (1000000 : Int).tdiv (tP (stk 3 h) x) ∧ (1000000 : Int).tdiv (tP (stk 3 h) x) ≤ 1000000 := fun _ => ⟨Int.tdiv_nonneg (by decide) b.2.2.1, Int.tdiv_le_self _ (by decide)⟩
      -- what is told
      have mm : ∀ (g : HI), FL LQ h g → Inv ζ g → ∀ r1 : Int, r1 = (if y = 0 then h 22 x else if y = 1 then (if tN (stk 3 h) x = 0 then -1 else tH (stk 3 h) x) else if y = 2 then (if tN (stk 3 h) x = 0 then -1 else tP (stk 3 h) x) else if y = 3 then (if tN (stk 3 h) x = 0 then -1 else tS (stk 3 h) x) else if y = 4 then (if tN (stk 3 h) x = 0 then 0 else (1000000 : Int).tdiv (tP (stk 3 h) x)) else h 11 x) → g 1000003 = h 1000003 ∧ g 1000004 = h 1000004 ∧ rg r1 ∧ RtI l (D + 60) mX12_about (zz ζ) [aP 97, aI x, aI y] (hu g 143 0 r1) (fun r2 h2 => rg r2 ∧ r1 = r2 ∧ h2 97 0 = 0 ∧ h2 143 0 = r1 ∧ h2 1000003 = h 1000003 ∧ h2 1000004 = h 1000004 ∧ Inv ζ h2) := by
        intro g f ig r1 er
        have g1 : rg r1 := by
          rw [er]
          by_cases z : tN (stk 3 h) x = 0
          · repeat' split
            all_goals first | (constructor <;> omega) | contradiction
          · have := fb (by have := b.2.2.2.2 z; omega)
            repeat' split
            all_goals first | (constructor <;> omega) | contradiction
        have k99 : (hu g 143 0 r1) 99 = h 99 := by rw [hu_c _ _ _ (by decide), f.c 99 rfl]
        refine ⟨f.c _ rfl, f.c _ rfl, g1, e_X12_about hn (s_isCell hn rx (by rw [k99]; exact rb1) ?_)⟩
        rw [k99, a2.1, if_pos c1]
        refine ⟨by decide, iteN (by decide) (s_isIn hn ry (by decide) (by decide) ?_)⟩
        rw [if_pos c2]
        refine ⟨by decide, iteP (by decide) (b_X12_about_23 hn (s_thr0 hn ⟨by decide, iteP rfl (i_settle i (by rw [hu_c _ _ _ (by decide), k99]) (fun k fm tsm tm => ⟨ry, ?_⟩))⟩))⟩
        have FG : FL ((97, 0) :: (143, -1) :: LM) g k := ((FL.refl.ua rfl).u rfl).trans (fm.mono rfl)
        have fin : ∀ r2, r1 = r2 → rg r2 ∧ r1 = r2 ∧ k 97 0 = 0 ∧ k 143 0 = r1 ∧ k 1000003 = h 1000003 ∧ k 1000004 = h 1000004 ∧ Inv ζ k := fun r2 e => ot_fin ig (f.c _ rfl) (f.c _ rfl) e g1 FG rfl (by rw [fm.at 97 0 rfl, hu_s]) (by rw [fm.c 143 rfl, hu_c _ _ _ (by decide), hu_s])
        have kk99 : k 99 = h 99 := by rw [fm.c 99 rfl, hu_c _ _ _ (by decide), k99]
        have t := tm x c1.1 (by show x < h 3 3; omega)
        refine iteI (fun y0 => iteI (fun y1 => iteI (fun y2 => iteI (fun y3 => iteI (fun y4 => s_mpackOf hn sr kk99 ⟨c1.1, by omega⟩ (fin _ ?_)) (fun y4 => e_X12_flowOf hn ⟨⟨c1.1, by omega⟩, ?_⟩)) (fun y3 => ⟨⟨c1.1, by omega⟩, fin _ ?_⟩)) (fun y2 => ⟨⟨c1.1, by omega⟩, fin _ ?_⟩)) (fun y1 => ⟨⟨c1.1, by omega⟩, fin _ ?_⟩)) (fun y0 => ⟨⟨by omega, by omega⟩, fin _ ?_⟩)
        · rw [er, if_neg y0, if_neg y1, if_neg y2, if_neg y3, if_neg y4]
        · rw [if_neg y0, if_neg y1, if_neg y2, if_neg y3, if_pos (Classical.not_not.mp y4)] at er
          rw [t.2.2.1]
          by_cases z : tN (stk 3 h) x = 0
          · rw [if_pos z] at er ⊢
            exact ⟨by decide, iteN (by decide) (fin _ er)⟩
          · rw [if_neg z] at er ⊢
            have := b.2.2.2.2 z
            exact ⟨by constructor <;> omega, iteP (by omega) ⟨by omega, fin _ er⟩⟩
        · rw [t.2.2.2, er, if_neg y0, if_neg y1, if_neg y2, if_pos (Classical.not_not.mp y3)]
        · rw [t.2.2.1, er, if_neg y0, if_neg y1, if_pos (Classical.not_not.mp y2)]
        · rw [t.2.1, er, if_neg y0, if_pos (Classical.not_not.mp y1)]
        · rw [kk99, bx1.1, er, if_pos (Classical.not_not.mp y0)]
      refine e_X11_about hn (s_hasCell hn rx rb ?_)
      rw [if_pos c1]
      refine ⟨by decide, iteN (by decide) (s_within hn ry (by decide) (by decide) ?_)⟩
      rw [if_pos c2]
      refine ⟨by decide, iteP (by decide) ⟨ry, iteI (fun y0 => iteI (fun y5 => i_refresh i (fun g f ig z ts tx => ?_)) (fun y5 => ⟨⟨c1.1, by omega⟩, mm h FL.refl i _ ?_⟩)) (fun y0 => ⟨⟨c1.1, by omega⟩, mm h FL.refl i _ ?_⟩)⟩⟩
      · have t := tx x c1.1 (by omega)
        refine iteI (fun y4 => s_toldOf hn ok tx ⟨c1.1, by omega⟩ ry (mm g f ig _ ?_)) (fun y4 => e_X8_flowOf hn ⟨⟨c1.1, by omega⟩, ?_⟩)
        · rw [if_neg y0]
          by_cases z : tN (stk 3 h) x = 0
          · rw [if_pos z, if_pos z, if_pos z, if_pos z]
            by_cases y1 : y = 1
            · rw [if_pos y1]
            · by_cases y2 : y = 2
              · rw [if_neg y1, if_pos y2]
              · rw [if_neg y1, if_neg y2, if_pos (by omega)]
          · rw [if_neg z, if_neg z, if_neg z, if_neg z]
            by_cases y1 : y = 1
            · rw [if_neg (by omega), if_pos y1, if_pos y1]
            · by_cases y2 : y = 2
              · rw [if_neg (by omega), if_neg y1, if_neg y1, if_pos y2]
              · rw [if_pos (by omega), if_neg y1, if_neg y2, if_pos (by omega)]
        · rw [t.2.2.1]
          refine s_cut hn (by decide) (by constructor <;> omega) (mm g f ig _ ?_)
          rw [if_neg y0, if_neg (show ¬ y = 1 by omega), if_neg (show ¬ y = 2 by omega), if_neg (show ¬ y = 3 by omega), if_pos (Classical.not_not.mp y4)]
          by_cases z : tN (stk 3 h) x = 0
          · have zp : tP (stk 3 h) x = 0 := by
              have z' : tcn (td (stk 3 h)) (tru (td (stk 3 h))).1 x = 0 := z
              unfold tP thv tvl
              rw [if_pos z']
            rw [if_pos zp, if_pos z]
          · have := b.2.2.2.2 z
            rw [if_neg (by omega), if_neg z]
      · rw [if_neg y0, if_neg (show ¬ y = 1 by omega), if_neg (show ¬ y = 2 by omega), if_neg (show ¬ y = 3 by omega), if_neg (show ¬ y = 4 by omega)]
      · rw [if_pos (Classical.not_not.mp y0)]
    · left
      refine ⟨x_X11_about (D := D + 54) hl9 hn (s_hasCell hn rx rb ?_), e_X12_about hn (s_isCell hn rx rb1 ?_)⟩
      · rw [if_pos c1]
        refine ⟨by decide, iteN (by decide) (s_within hn ry (by decide) (by decide) ?_)⟩
        rw [if_neg c2]
        exact ⟨by decide, iteN (by decide) rfl⟩
      · rw [a2.1, if_pos c1]
        refine ⟨by decide, iteN (by decide) (s_isIn hn ry (by decide) (by decide) ?_)⟩
        rw [if_neg c2]
        exact ⟨by decide, iteN (by decide) (thr h rfl _ (ot_thr i))⟩
  · left
    refine ⟨x_X11_about (D := D + 54) hl9 hn (s_hasCell hn rx rb ?_), e_X12_about hn (s_isCell hn rx rb1 ?_)⟩
    · rw [if_neg c1]
      exact ⟨by decide, iteP rfl rfl⟩
    · rw [a2.1, if_neg c1]
      exact ⟨by decide, iteP rfl (thr h rfl _ (ot_thr i))⟩
end TH5
