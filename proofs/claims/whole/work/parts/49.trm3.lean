/-! TRUTH, the reference's side: settle -/
def unj (d : TD) (j : Int → Int) : Int := cN (fun b => decide (j b = 0)) d.2.2.2.2.2.2
theorem cN_drop {q q' : Nat → Bool} {b : Nat} : ∀ {n : Nat}, b < n → q b = true → q' b = false → (∀ r, r ≠ b → q' r = q r) → cN q' n + 1 = cN q n
  | 0, h, _, _, _ => by omega
  | n + 1, h, h1, h2, h3 => by
    unfold cN
    by_cases e : b = n
    · subst e
      rw [h1, h2, cN_congr (q := q') (q' := q) (fun r hr => h3 r (by omega))]
      simp
    · have ih := cN_drop (n := n) (by omega) h1 h2 h3
      rw [h3 n (fun x => e x.symm)]
      split <;> omega
theorem unj_tst {d : TD} (ok : TDok d) {t : TS} (q : tnx d t.1 ≠ -1) : unj d (tst d t).1 + 1 = unj d t.1 := by
  rcases tnx_bd ok t.1 with e | e
  · exact absurd e q
  · have en : (((tnx d t.1).toNat : Nat) : Int) = tnx d t.1 := by omega
    refine cN_drop (b := (tnx d t.1).toNat) (by omega) ?_ ?_ ?_
    · rw [en]; exact decide_eq_true e.2.2.1
    · rw [en]
      refine decide_eq_false ?_
      show ¬ fu t.1 (tnx d t.1) 1 (tnx d t.1) = 0
      rw [fu_s]; decide
    · intro r hr
      show decide (fu t.1 (tnx d t.1) 1 (r : Int) = 0) = _
      rw [fu_n _ _ (by omega)]
theorem unj_0 {d : TD} (ok : TDok d) {j : Int → Int} (h : unj d j = 0) : tnx d j = -1 := by
  rcases tnx_bd ok j with e | e
  · exact e
  · have en : (((tnx d j).toNat : Nat) : Int) = tnx d j := by omega
    have : 0 < unj d j := cN_of (r := (tnx d j).toNat) (by omega) (by rw [en]; exact decide_eq_true e.2.2.1)
    omega
theorem unj_tin (d : TD) : unj d (tin d).1 ≤ ((d.2.2.2.2.2.2 - 1 : Nat) : Int) := by
  unfold unj
  have aux : ∀ n : Nat, 0 < d.2.2.2.2.2.2 → cN (fun b => decide ((tin d).1 (b : Int) = 0)) n ≤ ((n - 1 : Nat) : Int) := by
    intro n hB
    induction n with
    | zero => simp [cN]
    | succ n ih =>
      unfold cN
      by_cases e : n = 0
      · subst e
        have : (tin d).1 ((0 : Nat) : Int) = 1 := by
          show (if ((0 : Nat) : Int) = 0 ∧ 0 < d.2.2.2.2.2.2 then (1 : Int) else 0) = 1
          rw [if_pos ⟨rfl, hB⟩]
        rw [this]; simp [cN]
      · split <;> omega
  by_cases hB : d.2.2.2.2.2.2 = 0
  · rw [hB]; simp [cN]
  · exact aux _ (by omega)
section TRM3
variable {l : Launch} {D : Nat} {ζ : ZP} {h : HI} {Q : Int → HI → Prop} {QV : HI → Prop} {x y : Int}
theorem s_scan (hn : 144 ≤ ζ.2.2.2.2) {d : TD} (ok : TDok d) {t : TS} {K : Int} (hd : TDM d h) (ts : TSM t h) (tw : TWM d t h) (tb : tbd K t) (x0 : 0 ≤ x ∧ x < 6) (fin : G l (D + 3) 0 0 mX12_settle (zz ζ) 88 [aP 97, aI (tnx d t.1), aI (nbF (tnn d t.1) d.2.2.2.2.2.2).2, aI d.2.2.2.2.2.2, aU, aU] [] h (qV (zz ζ) QV)) : G l (D + 3) 0 0 mX12_settle (zz ζ) 78 [aP 97, aI x, aU, aU, aU, aU] [] h (qV (zz ζ) QV) := by
  have okd := ok
  obtain ⟨o1, o2, o3, o4⟩ := ok
  obtain ⟨d1, d2, d3, d4⟩ := id hd
  have nbb := fun (b : Nat) => nbF_bd (tnn d t.1) b
  have tnb : ∀ b : Nat, 0 ≤ tnn d t.1 b ∧ tnn d t.1 b ≤ 60 := fun b => by
    unfold tnn
    have := cN_bd (tsh d t.1 b) d.2.2.2.2.2.1
    split <;> omega
  have nbm : ∀ b : Nat, (nbF (tnn d t.1) b).2 ≤ 60 := fun b => by
    rcases (nbb b).2 with q | q
    · omega
    · have := tnb (nbF (tnn d t.1) b).1.toNat; omega
  refine b_X12_settle_78 hn ⟨by constructor <;> omega, iteN (by omega) ?_⟩
  have main : ∀ (n b : Nat), b + n = d.2.2.2.2.2.2 → G l (D + 3) 0 0 mX12_settle (zz ζ) 88 [aP 97, aI (nbF (tnn d t.1) b).1, aI (nbF (tnn d t.1) b).2, aI b, aU, aU] [] h (qV (zz ζ) QV) := by
    intro n
    induction n with
    | zero =>
      intro b hb
      have : b = d.2.2.2.2.2.2 := by omega
      subst this
      exact fin
    | succ n ih =>
      intro b hb
      refine b_X12_settle_88 hn ⟨by constructor <;> omega, by rw [d3]; constructor <;> omega, iteN (by rw [d3]; omega) ?_⟩
      have fin2 : ∀ (v : Int), v = tnn d t.1 b → (if (nbF (tnn d t.1) b).2 < v then G l (D + 3) 0 0 mX12_settle (zz ζ) 88 [aP 97, aI (b : Int), aI v, aI ((b : Int) + 1), aU, aU] [] h (qV (zz ζ) QV) else G l (D + 3) 0 0 mX12_settle (zz ζ) 88 [aP 97, aI (nbF (tnn d t.1) b).1, aI (nbF (tnn d t.1) b).2, aI ((b : Int) + 1), aU, aU] [] h (qV (zz ζ) QV)) := by
        intro v hv
        subst hv
        have k := ih (b + 1) (by omega)
        have eb : ((b + 1 : Nat) : Int) = (b : Int) + 1 := by omega
        rw [eb] at k
        unfold nbF at k
        refine iteI (fun q => ?_) (fun q => ?_)
        · rw [if_pos (by omega)] at k; exact k
        · rw [if_neg (by omega)] at k; exact k
      have jb := (tb b (by omega) (by omega)).1
      have ej : h 103 b = t.1 b := ts.1 b (by omega) (by omega)
      have inner : ∀ (m c : Nat), c + m = d.2.2.2.2.2.1 → (t.1 b ≠ 0 → c = 0) → G l (D + 3) 0 0 mX12_settle (zz ζ) 104 [aP 97, aI (nbF (tnn d t.1) b).1, aI (nbF (tnn d t.1) b).2, aI b, aI (cN (tsh d t.1 b) c), aI c] [] h (qV (zz ζ) QV) := by
        intro m
        induction m with
        | zero =>
          intro c hc hc0
          have cc : c = d.2.2.2.2.2.1 := by omega
          have cb := cN_bd (tsh d t.1 b) c
          have nb' := nbm b
          have nb0 := (nbb b).1
          refine b_X12_settle_104 hn ⟨by constructor <;> omega, by rw [d2]; constructor <;> omega, iteP (by rw [d2]; omega) ⟨by constructor <;> omega, by constructor <;> omega, fin2 _ ?_⟩⟩
          unfold tnn
          by_cases e : t.1 b ≠ 0
          · rw [if_pos e, hc0 e]; rfl
          · rw [if_neg e, cc]
        | succ m ihm =>
          intro c hc hc0
          have cb := cN_bd (tsh d t.1 b) c
          have nb' := nbm b
          have nb0 := (nbb b).1
          refine b_X12_settle_104 hn ⟨by constructor <;> omega, by rw [d2]; constructor <;> omega, iteN (by rw [d2]; omega) ⟨⟨by omega, by omega⟩, ?_⟩⟩
          rw [ej]
          have k := fun e => ihm (c + 1) (by omega) e
          have ec : ((c + 1 : Nat) : Int) = (c : Int) + 1 := by omega
          rw [ec] at k
          unfold cN at k
          have w1 := (tw c (by omega) (by omega)).1
          have n1 := cN_bd (rdq d t.1 c) d.2.2.2.2.1
          have n2 : tcn d t.1 c = cN (rdq d t.1 c) d.2.2.2.2.1 := rfl
          have ft := tfs_bd d c b
          refine ⟨by rcases jb with e | e <;> rw [e] <;> decide, iteI (fun q => ?_) (fun q => ⟨⟨by omega, by omega⟩, ?_⟩)⟩
          · refine ⟨by constructor <;> omega, by constructor <;> omega, fin2 _ ?_⟩
            unfold tnn
            rw [if_pos q, hc0 q]; rfl
          · rw [w1]
            have k' := k (fun e => absurd e (by simpa using q))
            refine ⟨by rw [n2]; constructor <;> omega, iteI (fun z => ?_) (fun z => s_firstOn hn okd hd (by constructor <;> omega) (by constructor <;> omega) ⟨by constructor <;> omega, iteI (fun z2 => ?_) (fun z2 => ?_)⟩)⟩
            · have es : tsh d t.1 b c = false := decide_eq_false (fun e => by have := e.1; omega)
              rw [es] at k'; exact k'
            · have es : tsh d t.1 b c = false := decide_eq_false (fun e => e.2 (by omega))
              rw [es] at k'; exact k'
            · have es : tsh d t.1 b c = true := decide_eq_true ⟨by omega, by omega⟩
              rw [es] at k'; exact k'
      exact inner d.2.2.2.2.2.1 0 (by omega) (fun _ => rfl)
  exact main d.2.2.2.2.2.2 0 (by omega)
theorem s_settle (hn : 144 ≤ ζ.2.2.2.2) {d : TD} (ok : TDok d) (hd : TDM d h) (hq : ∀ h', FL [(103, -1), (104, -1), (105, -1), (106, -1), (107, -1), (108, -1), (109, -1), (110, -1)] h h' → TSM (tru d) h' → TWM d (tru d) h' → QV h') : RtV l (D + 3) mX12_settle (zz ζ) [aP 97] h QV := by
  have okd := ok
  obtain ⟨o1, o2, o3, o4⟩ := ok
  refine e_X12_settle hn ?_
  refine lup (R := fun i g => G l (D + 3) 0 0 mX12_settle (zz ζ) 2 [aP 97, aI i, aU, aU, aU, aU] [] g (qV (zz ζ) QV)) (P := fun i g => FL [(103, -1), (104, -1), (105, -1)] h g ∧ ∀ b : Int, 0 ≤ b → b < i → g 103 b = (tin d).1 b ∧ g 104 b = 0 ∧ g 105 b = 0) (N := 6) ?_ ?_ 0 _ (by omega) (by omega) ⟨FL.refl, fun b h0 h1 => by omega⟩
  · intro i g h0 h1 p k
    obtain ⟨d1, d2, d3, d4⟩ := hd.fl p.1 rfl
    have fin : ∀ v, v = (tin d).1 i → G l (D + 3) 0 0 mX12_settle (zz ζ) 2 [aP 97, aI (i + 1), aU, aU, aU, aU] [] (hu (hu (hu g 103 i v) 104 i 0) 105 i 0) (qV (zz ζ) QV) := by
      intro v hv
      refine k _ ⟨((p.1.ua rfl).ua rfl).ua rfl, fun b b0 b1 => ?_⟩
      by_cases e : b = i
      · subst e; simp [hu, hv]
      · have := p.2 b b0 (by omega)
        simp [hu, e, this]
    refine b_X12_settle_2 hn ⟨by constructor <;> omega, iteN (by omega) (iteI (fun q => ⟨⟨h0, h1⟩, fin 0 ?_⟩) (fun q => ⟨by rw [d3]; constructor <;> omega, iteI (fun q2 => ⟨⟨h0, h1⟩, fin 0 ?_⟩) (fun q2 => ⟨⟨h0, h1⟩, fin 1 ?_⟩)⟩))⟩
    · unfold tin; simp only; rw [if_neg (by omega)]
    · unfold tin; simp only; rw [if_neg (by omega)]
    · unfold tin; simp only; rw [if_pos (by omega)]
  · intro g p
    have ts0 : TSM (tin d) g := ⟨fun b b0 b1 => (p.2 b b0 b1).1, fun b b0 b1 => (p.2 b b0 b1).2.1, fun b b0 b1 => (p.2 b b0 b1).2.2⟩
    have F0 : FL [(103, -1), (104, -1), (105, -1), (106, -1), (107, -1), (108, -1), (109, -1), (110, -1)] h g := p.1.mono rfl
    refine b_X12_settle_2 hn ⟨by decide, iteP (by decide) ?_⟩
    have main : ∀ (k : Nat) (t : TS) (K : Int) (g : HI) (x1 : Int), 0 ≤ x1 → x1 < 6 → 0 ≤ K → K + 1000 * k ≤ 5000 → unj d t.1 ≤ k → FL [(103, -1), (104, -1), (105, -1), (106, -1), (107, -1), (108, -1), (109, -1), (110, -1)] h g → TSM t g → TWM d t g → tbd K t → ttr d k t = tru d → G l (D + 3) 0 0 mX12_settle (zz ζ) 78 [aP 97, aI x1, aU, aU, aU, aU] [] g (qV (zz ζ) QV) := by
      intro k
      induction k with
      | zero =>
        intro t K g x1 x0 x6 hK0 hK hu0 F ts tw tb e
        have un : unj d t.1 = 0 := by have := (cN_bd (fun b => decide (t.1 b = 0)) d.2.2.2.2.2.2).1; unfold unj at hu0 ⊢; omega
        have e' : t = tru d := e
        have nx := unj_0 okd un
        have hdg := hd.fl F rfl
        refine s_scan hn okd hdg ts tw tb ⟨x0, x6⟩ ?_
        rw [nx]
        refine b_X12_settle_88 hn ⟨by constructor <;> omega, by rw [hdg.2.2.1]; constructor <;> omega, iteP (by rw [hdg.2.2.1]; omega) ⟨by decide, iteN (by decide) (b_X12_settle_78 hn ⟨by decide, iteP (by decide) ?_⟩)⟩⟩
        subst e'
        exact hq g F ts tw
      | succ k ih =>
        intro t K g x1 x0 x6 hK0 hK hu0 F ts tw tb e
        have hdg := hd.fl F rfl
        refine s_scan hn okd hdg ts tw tb ⟨x0, x6⟩ ?_
        have nx := tnx_bd okd t.1
        refine b_X12_settle_88 hn ⟨by constructor <;> omega, by rw [hdg.2.2.1]; constructor <;> omega, iteP (by rw [hdg.2.2.1]; omega) ⟨by constructor <;> omega, iteI (fun q => ?_) (fun q => b_X12_settle_78 hn ⟨by constructor <;> omega, iteP (by omega) ?_⟩)⟩⟩
        rotate_left
        · have e1 : tnx d t.1 = -1 := by omega
          rw [ttr, if_pos e1] at e
          subst e
          exact hq g F ts tw
        have q' : tnx d t.1 ≠ -1 := by omega
        have nx' : 0 ≤ tnx d t.1 ∧ tnx d t.1 < d.2.2.2.2.2.2 ∧ t.1 (tnx d t.1) = 0 ∧ 0 < cN (tsh d t.1 (tnx d t.1)) d.2.2.2.2.2.1 := by
          rcases nx with e | e
          · exact absurd e q'
          · exact e
        refine s_mmiddle2 hn okd hdg (K := K) ⟨hK0, by omega⟩ tb tw ⟨nx'.1, by omega⟩ nx'.2.2.2 fun g3 f3 => ⟨⟨nx'.1, by omega⟩, ?_⟩
        have f3' : FL [(110, -1), (104, -1)] g (hu g3 104 (tnx d t.1) (tmd d t.1 d.2.2.1 t.2.1 (tnx d t.1))) := (f3.mono rfl).ua rfl
        have hd4 := hdg.fl f3' rfl
        refine s_mmiddle3 hn okd hd4 (K := K) ⟨hK0, by omega⟩ tb (tw.fl f3' rfl) ⟨nx'.1, by omega⟩ nx'.2.2.2 fun g5 f5 => ?_
        have f6 : FL [(110, -1), (103, -1), (104, -1), (105, -1)] g (hu (hu g5 105 (tnx d t.1) (tmd d t.1 d.2.2.2.1 t.2.2 (tnx d t.1))) 103 (tnx d t.1) 1) := (((f3'.mono rfl).trans (f5.mono rfl)).ua rfl).ua rfl
        have hd6 := hdg.fl f6 rfl
        have ts6 : TSM (tst d t) (hu (hu g5 105 (tnx d t.1) (tmd d t.1 d.2.2.2.1 t.2.2 (tnx d t.1))) 103 (tnx d t.1) 1) := by
          have a41 : g5 103 = g 103 := by rw [f5.c 103 rfl, f3'.c 103 rfl]
          have a43 : g5 105 = g 105 := by rw [f5.c 105 rfl, f3'.c 105 rfl]
          have a42 : g5 104 = fu (g 104) (tnx d t.1) (tmd d t.1 d.2.2.1 t.2.1 (tnx d t.1)) := by rw [f5.c 104 rfl, hu_fu, f3.c 104 rfl]
          refine ⟨fun b b0 b1 => ?_, fun b b0 b1 => ?_, fun b b0 b1 => ?_⟩
          · show _ = fu t.1 (tnx d t.1) 1 b
            rw [hu_fu, hu_c _ _ _ (by decide), a41]
            unfold fu; rw [ts.1 b b0 b1]
          · show _ = fu t.2.1 (tnx d t.1) _ b
            rw [hu_c _ _ _ (by decide), hu_c _ _ _ (by decide), a42]
            unfold fu; rw [ts.2.1 b b0 b1]
          · show _ = fu t.2.2 (tnx d t.1) _ b
            rw [hu_c _ _ _ (by decide), hu_fu, a43]
            unfold fu; rw [ts.2.2 b b0 b1]
        have tb6 := tst_bd okd hK0 tb q'
        have un6 := unj_tst okd q'
        refine lup (R := fun i g => G l (D + 3) 0 0 mX12_settle (zz ζ) 221 [aP 97, aI (tnx d t.1), aU, aI i, aU, aU] [] g (qV (zz ζ) QV)) (P := fun i g => FL [(103, -1), (104, -1), (105, -1), (106, -1), (107, -1), (108, -1), (109, -1), (110, -1)] h g ∧ TSM (tst d t) g ∧ ∀ c : Int, 0 ≤ c → c < i → TWM1 d (tst d t) g c) (N := (d.2.2.2.2.2.1 : Int)) ?_ ?_ 0 _ (by omega) (by omega) ⟨F.trans (f6.mono rfl), ts6, fun c h0 h1 => by omega⟩
        · intro i g h0 h1 p k
          have hd' := hd.fl p.1 rfl
          refine b_X12_settle_221 hn ⟨by constructor <;> omega, by rw [hd'.2.1]; constructor <;> omega, iteN (by rw [hd'.2.1]; omega) ?_⟩
          refine s_trueOf hn okd hd' p.2.1 (K := K + 1000) ⟨by omega, by omega⟩ tb6 ⟨h0, by omega⟩ fun g' f' oth new => ?_
          refine k g' ⟨p.1.trans (f'.mono rfl), p.2.1.fl f' rfl, fun c c0 c1 => ?_⟩
          by_cases e : c = i
          · subst e; exact new
          · exact oth c e (p.2.2 c c0 (by omega))
        · intro g p
          have hd' := hd.fl p.1 rfl
          refine b_X12_settle_221 hn ⟨by constructor <;> omega, by rw [hd'.2.1]; constructor <;> omega, iteP (by rw [hd'.2.1]; omega) ?_⟩
          exact ih (tst d t) (K + 1000) g _ nx'.1 (by omega) (by omega) (by omega) (by omega) p.1 p.2.1 p.2.2 tb6 (by rw [← e]; exact (ttr_n q').symm)
    have eB := unj_tin d
    refine lup (R := fun i g => G l (D + 3) 0 0 mX12_settle (zz ζ) 54 [aP 97, aI i, aU, aU, aU, aU] [] g (qV (zz ζ) QV)) (P := fun i g => FL [(103, -1), (104, -1), (105, -1), (106, -1), (107, -1), (108, -1), (109, -1), (110, -1)] h g ∧ TSM (tin d) g ∧ ∀ c : Int, 0 ≤ c → c < i → TWM1 d (tin d) g c) (N := (d.2.2.2.2.2.1 : Int)) ?_ ?_ 0 g (by omega) (by omega) ⟨F0, ts0, fun c h0 h1 => by omega⟩
    · intro i g h0 h1 p k
      have hd' := hd.fl p.1 rfl
      refine b_X12_settle_54 hn ⟨by constructor <;> omega, by rw [hd'.2.1]; constructor <;> omega, iteN (by rw [hd'.2.1]; omega) ?_⟩
      refine s_trueOf hn okd hd' p.2.1 (K := 0) ⟨by decide, by decide⟩ (tin_bd d) ⟨h0, by omega⟩ fun g' f' oth new => ?_
      refine k g' ⟨p.1.trans (f'.mono rfl), p.2.1.fl f' rfl, fun c c0 c1 => ?_⟩
      by_cases e : c = i
      · subst e; exact new
      · exact oth c e (p.2.2 c c0 (by omega))
    · intro g p
      have hd' := hd.fl p.1 rfl
      refine b_X12_settle_54 hn ⟨by constructor <;> omega, by rw [hd'.2.1]; constructor <;> omega, iteP (by rw [hd'.2.1]; omega) ?_⟩
      exact main (d.2.2.2.2.2.2 - 1) (tin d) 0 g 0 (by omega) (by omega) (by omega) (by omega) eB p.1 p.2.1 p.2.2 (tin_bd d) rfl
end TRM3
