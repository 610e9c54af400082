theorem TWX.fl {d : TD} {t : TS} {h h' : HI} {L : List (Nat × Int)} (w : TWX d t h) (f : FL L h h') (c : (!inC L 44 && !inC L 45 && !inC L 46 && !inC L 47 && !inC L 48) = true) : TWX d t h' := by
  simp only [Bool.and_eq_true, Bool.not_eq_true'] at c
  obtain ⟨⟨⟨⟨c1, c2⟩, c3⟩, c4⟩, c5⟩ := c
  intro c q0 q1
  have := w c q0 q1
  rw [f.c 44 c1, f.c 45 c2, f.c 46 c3, f.c 47 c4, f.c 48 c5]; exact this
theorem TFX.fl {d : TD} {h h' : HI} {L : List (Nat × Int)} (w : TFX d h) (f : FL L h h') (c : inC L 49 = false) : TFX d h' := fun q b hc h0 h1 => by rw [f.c 49 c]; exact w q b hc h0 h1
theorem TSX.fl {t : TS} {h h' : HI} {L : List (Nat × Int)} (w : TSX t h) (f : FL L h h') (c : (!inC L 41 && !inC L 42 && !inC L 43) = true) : TSX t h' := by
  simp only [Bool.and_eq_true, Bool.not_eq_true'] at c
  obtain ⟨⟨c1, c2⟩, c3⟩ := c
  unfold TSX
  rw [f.c 41 c1, f.c 42 c2, f.c 43 c3]; exact w
theorem tin_bd (d : TD) : tbd 0 (tin d) := by
  intro b h0 h1
  refine ⟨?_, ⟨by show (-0 : Int) ≤ 0; decide, by show (0 : Int) ≤ 0; decide⟩, ⟨by show (-0 : Int) ≤ 0; decide, by show (0 : Int) ≤ 0; decide⟩⟩
  show (if b = 0 ∧ 0 < d.2.2.2.2.2.2 then (1 : Int) else 0) = 0 ∨ (if b = 0 ∧ 0 < d.2.2.2.2.2.2 then (1 : Int) else 0) = 1
  split
  · exact Or.inr rfl
  · exact Or.inl rfl
theorem ttr_bd {d : TD} (ok : TDok d) : ∀ (k : Nat) {K : Int} {t : TS}, 0 ≤ K → tbd K t → tbd (K + 1000 * k) (ttr d k t)
  | 0, K, t, _, h => by simpa [ttr] using h
  | k + 1, K, t, hK, h => by
    unfold ttr
    split
    · intro b h0 h1
      have := h b h0 h1
      omega
    · rename_i q
      have := ttr_bd ok k (K := K + 1000) (by omega) (tst_bd ok hK h q)
      intro b h0 h1
      have := this b h0 h1
      omega
theorem tru_bd {d : TD} (ok : TDok d) : tbd 5000 (tru d) := by
  have := ttr_bd ok (d.2.2.2.2.2.2 - 1) (Int.le_refl 0) (tin_bd d)
  have o := ok.2.2.1
  intro b h0 h1
  have := this b h0 h1
  unfold tru
  omega
section TRX4
variable {l : Launch} {D : Nat} {ζ : ZP} {h : HI} {Q : Int → HI → Prop} {QV : HI → Prop} {x y : Int}
theorem s_refresh (hn : 144 ≤ ζ.2.2.2.2) {d : TD} (ok : TDok d) (hd : TDX d h) (hs : rg (h 40 0)) (hv : h 40 0 = 0 → TSX (tru d) h ∧ TWX d (tru d) h) (hq : ∀ h', FL [(40, 0), (41, -1), (42, -1), (43, -1), (44, -1), (45, -1), (46, -1), (47, -1), (48, -1), (49, -1), (50, -1)] h h' → h' 40 0 = 0 → TSX (tru d) h' → TWX d (tru d) h' → QV h') : RtV l (D + 4) mX8_refresh (zz ζ) [aP 40, aP 3] h QV := by
  have okd := ok
  obtain ⟨o1, o2, o3, o4⟩ := ok
  refine e_X8_refresh hn ⟨hs, iteI (fun _ => ?_) (fun q => ?_)⟩
  rotate_left
  · have e : h 40 0 = 0 := by omega
    exact hq h FL.refl e (hv e).1 (hv e).2
  refine lup (R := fun i g => G l (D + 4) 0 0 mX8_refresh (zz ζ) 15 [aP 40, aP 3, aI i, aU] [] g (qV (zz ζ) QV)) (P := fun i g => FL [(40, 0), (41, -1), (42, -1), (43, -1)] h g ∧ g 40 0 = 0 ∧ ∀ b : Int, 0 ≤ b → b < i → g 41 b = (tin d).1 b ∧ g 42 b = 0 ∧ g 43 b = 0) (N := 6) ?_ ?_ 0 _ (by omega) (by omega) ⟨FL.refl.u rfl, by simp [hu], fun b h0 h1 => by omega⟩
  · intro i g h0 h1 p k
    obtain ⟨d1, d2, d3, d4, d5, d6, d7⟩ := hd.fl p.1 rfl
    have fin : ∀ v, v = (tin d).1 i → G l (D + 4) 0 0 mX8_refresh (zz ζ) 15 [aP 40, aP 3, aI (i + 1), aU] [] (hu (hu (hu g 41 i v) 42 i 0) 43 i 0) (qV (zz ζ) QV) := by
      intro v hv
      refine k _ ⟨((p.1.ua rfl).ua rfl).ua rfl, by simp [hu, p.2.1], fun b b0 b1 => ?_⟩
      by_cases e : b = i
      · subst e; simp [hu, hv]
      · have := p.2.2 b b0 (by omega)
        simp [hu, e, this]
    refine b_X8_refresh_15 hn ⟨by constructor <;> omega, iteN (by omega) (iteI (fun q => ⟨⟨h0, h1⟩, fin 0 ?_⟩) (fun q => ⟨by rw [d7]; constructor <;> omega, iteI (fun q2 => ⟨⟨h0, h1⟩, fin 0 ?_⟩) (fun q2 => ⟨⟨h0, h1⟩, fin 1 ?_⟩)⟩))⟩
    · unfold tin; simp only; rw [if_neg (by omega)]
    · unfold tin; simp only; rw [if_neg (by omega)]
    · unfold tin; simp only; rw [if_pos (by omega)]
  · intro g p
    have hd' := hd.fl p.1 rfl
    refine b_X8_refresh_15 hn ⟨by decide, iteP (by decide) (s_findFirst hn okd hd' fun g1 f1 ff1 => ?_)⟩
    have hd1 := hd'.fl f1 rfl
    have ts0 : TSX (tin d) g := ⟨fun b b0 b1 => (p.2.2 b b0 b1).1, fun b b0 b1 => (p.2.2 b b0 b1).2.1, fun b b0 b1 => (p.2.2 b b0 b1).2.2⟩
    have ts1 := ts0.fl f1 rfl
    refine s_weigh hn okd hd1 ts1 (K := 0) ⟨by decide, by decide⟩ (tin_bd d) fun g2 f2 tw2 => ?_
    have hd2 := hd1.fl f2 rfl
    have ff2 := ff1.fl f2 rfl
    have ts2 := ts1.fl f2 rfl
    have z2 : g2 40 0 = 0 := by rw [f2.at 40 0 rfl, f1.at 40 0 rfl]; exact p.2.1
    have F2 : FL [(40, 0), (41, -1), (42, -1), (43, -1), (44, -1), (45, -1), (46, -1), (47, -1), (48, -1), (49, -1), (50, -1)] h g2 := ((p.1.mono rfl).trans (f1.mono rfl)).trans (f2.mono rfl)
    rw [hd2.2.2.2.2.2.2]
    by_cases hB : d.2.2.2.2.2.2 = 0
    · rw [hB]
      refine b_X8_refresh_86 hn ⟨by decide, iteP (by decide) ?_⟩
      have e : tru d = tin d := by unfold tru; rw [hB]; rfl
      refine hq g2 F2 z2 ?_ ?_
      · rw [e]; exact ts2
      · rw [e]; exact tw2
    · have main : ∀ (k : Nat) (t : TS) (K : Int) (g : HI), 0 ≤ K → K + 1000 * k ≤ 5000 → FL [(40, 0), (41, -1), (42, -1), (43, -1), (44, -1), (45, -1), (46, -1), (47, -1), (48, -1), (49, -1), (50, -1)] h g → g 40 0 = 0 → TSX t g → TWX d t g → TFX d g → tbd K t → t.1 0 = 1 → ttr d k t = tru d → G l (D + 4) 0 0 mX8_refresh (zz ζ) 86 [aP 40, aP 3, aI k, aU] [] g (qV (zz ζ) QV) := by
        intro k
        induction k with
        | zero =>
          intro t K g hK0 hK F z ts tw ff tb t0 e
          refine b_X8_refresh_86 hn ⟨by decide, iteP (by decide) ?_⟩
          rw [ttr] at e
          subst e
          exact hq g F z ts tw
        | succ k ih =>
          intro t K g hK0 hK F z ts tw ff tb t0 e
          have hdg := hd.fl F rfl
          refine b_X8_refresh_86 hn ⟨by constructor <;> omega, iteN (by omega) (s_nextBench hn okd hdg ts (fun b b0 b1 => (tb b b0 b1).1) (fun _ => t0) tw ff (by omega) ?_)⟩
          have nx := tnx_bd okd t.1
          refine ⟨by constructor <;> omega, iteI (fun q => ?_) (fun q => ?_)⟩
          rotate_left
          · have e1 : tnx d t.1 = -1 := by omega
            rw [ttr, if_pos e1] at e
            subst e
            exact hq g F z ts tw
          have nx' : 0 ≤ tnx d t.1 ∧ tnx d t.1 < d.2.2.2.2.2.2 ∧ t.1 (tnx d t.1) = 0 ∧ 0 < cN (tsh d t.1 (tnx d t.1)) d.2.2.2.2.2.1 := by
            rcases nx with e | e
            · exact absurd e q
            · exact e
          rw [hdg.2.2.2.2.2.1]
          refine s_middle_h hn okd hdg (K := K) ⟨hK0, by omega⟩ tb tw ff ⟨nx'.1, by omega⟩ nx'.2.2.2 fun g3 f3 => ⟨⟨nx'.1, by omega⟩, ?_⟩
          have f3' : FL [(50, -1), (42, -1)] g (hu g3 42 (tnx d t.1) (tmd d t.1 d.2.2.1 t.2.1 (tnx d t.1))) := (f3.mono rfl).ua rfl
          have hd4 := hdg.fl f3' rfl
          rw [show g3 3 3 = (d.2.2.2.2.2.1 : Int) by rw [f3.at 3 3 rfl]; exact hdg.2.2.2.2.2.1]
          refine s_middle_p hn okd hd4 (K := K) ⟨hK0, by omega⟩ tb (tw.fl f3' rfl) (ff.fl f3' rfl) ⟨nx'.1, by omega⟩ nx'.2.2.2 fun g5 f5 => ?_
          have f6 : FL [(50, -1), (41, -1), (42, -1), (43, -1)] g (hu (hu g5 43 (tnx d t.1) (tmd d t.1 d.2.2.2.1 t.2.2 (tnx d t.1))) 41 (tnx d t.1) 1) := (((f3'.mono rfl).trans (f5.mono rfl)).ua rfl).ua rfl
          have hd6 := hdg.fl f6 rfl
          have ts6 : TSX (tst d t) (hu (hu g5 43 (tnx d t.1) (tmd d t.1 d.2.2.2.1 t.2.2 (tnx d t.1))) 41 (tnx d t.1) 1) := by
            have a41 : g5 41 = g 41 := by rw [f5.c 41 rfl, f3'.c 41 rfl]
            have a43 : g5 43 = g 43 := by rw [f5.c 43 rfl, f3'.c 43 rfl]
            have a42 : g5 42 = fu (g 42) (tnx d t.1) (tmd d t.1 d.2.2.1 t.2.1 (tnx d t.1)) := by rw [f5.c 42 rfl, hu_fu, f3.c 42 rfl]
            refine ⟨fun b b0 b1 => ?_, fun b b0 b1 => ?_, fun b b0 b1 => ?_⟩
            · show _ = fu t.1 (tnx d t.1) 1 b
              rw [hu_fu, hu_c _ _ _ (by decide), a41]
              unfold fu; rw [ts.1 b b0 b1]
            · show _ = fu t.2.1 (tnx d t.1) _ b
              rw [hu_c _ _ _ (by decide), hu_c _ _ _ (by decide), a42]
              unfold fu; rw [ts.2.1 b b0 b1]
            · show _ = fu t.2.2 (tnx d t.1) _ b
              rw [hu_c _ _ _ (by decide), hu_fu, a43]
              unfold fu; rw [ts.2.2 b b0 b1]
          have tb6 := tst_bd okd hK0 tb q
          refine s_weigh hn okd hd6 ts6 (K := K + 1000) ⟨by omega, by omega⟩ tb6 fun g7 f7 tw7 => ?_
          rw [show ((k + 1 : Nat) : Int) + (-1) = (k : Int) by omega]
          refine ih (tst d t) (K + 1000) g7 (by omega) (by omega) ((F.trans (f6.mono rfl)).trans (f7.mono rfl)) ?_ (ts6.fl f7 rfl) tw7 ((ff.fl f6 rfl).fl f7 rfl) tb6 ?_ ?_
          · rw [f7.at 40 0 rfl, f6.at 40 0 rfl]; exact z
          · show fu t.1 (tnx d t.1) 1 0 = 1
            unfold fu
            split
            · rfl
            · exact t0
          · rw [← e]
            exact (ttr_n q).symm
      have eB : ((d.2.2.2.2.2.2 : Int) - 1) = ((d.2.2.2.2.2.2 - 1 : Nat) : Int) := by omega
      rw [eB]
      refine main (d.2.2.2.2.2.2 - 1) (tin d) 0 g2 (by omega) (by omega) F2 z2 ts2 tw2 ff2 (tin_bd d) ?_ rfl
      show (if (0 : Int) = 0 ∧ 0 < d.2.2.2.2.2.2 then (1 : Int) else 0) = 1
      rw [if_pos ⟨rfl, by omega⟩]
end TRX4
