/-! TRUTH, the class's side: first readings, the next bench, the middle, all of it -/
def TFX (d : TD) (h : HI) : Prop := ∀ (c : Nat) (b : Int), c < d.2.2.2.2.2.1 → 0 ≤ b → b < 6 → h 49 ((c : Int) * 6 + b) = tfs d c b
section TRX2
variable {l : Launch} {D : Nat} {ζ : ZP} {h : HI} {Q : Int → HI → Prop} {QV : HI → Prop} {x y : Int}
theorem s_findFirst (hn : 144 ≤ ζ.2.2.2.2) {d : TD} (ok : TDok d) (hd : TDX d h) (hq : ∀ h', FL [(49, -1)] h h' → TFX d h' → QV h') : RtV l (D + 1) mX8_findFirst (zz ζ) [aP 40, aP 3] h QV := by
  have okd := ok
  obtain ⟨o1, o2, o3, o4⟩ := ok
  refine e_X8_findFirst hn ?_
  refine lup (R := fun i g => G l (D + 1) 0 0 mX8_findFirst (zz ζ) 2 [aP 40, aP 3, aI i] [] g (qV (zz ζ) QV)) (P := fun i g => FL [(49, -1)] h g ∧ ∀ c : Int, 0 ≤ c → c < i → g 49 c = -1) (N := (d.2.2.2.2.2.1 : Int) * 6) ?_ ?_ 0 h (by omega) (by omega) ⟨FL.refl, fun c h0 h1 => by omega⟩
  · intro i g h0 h1 p k
    obtain ⟨d1, d2, d3, d4, d5, d6, d7⟩ := hd.fl p.1 rfl
    refine b_X8_findFirst_2 hn ⟨by constructor <;> omega, by rw [d6]; constructor <;> omega, iteN (by rw [d6]; omega) ⟨⟨h0, by omega⟩, k _ ⟨p.1.ua rfl, ?_⟩⟩⟩
    intro c c0 c1
    by_cases e : c = i
    · subst e; simp [hu]
    · have := p.2 c c0 (by omega)
      simp [hu, e, this]
  · intro g p
    obtain ⟨d1, d2, d3, d4, d5, d6, d7⟩ := hd.fl p.1 rfl
    refine b_X8_findFirst_2 hn ⟨by constructor <;> omega, by rw [d6]; constructor <;> omega, iteP (by rw [d6]; omega) ?_⟩
    rw [d5]
    refine ldn (R := fun i g => G l (D + 1) 0 0 mX8_findFirst (zz ζ) 33 [aP 40, aP 3, aI i] [] g (qV (zz ζ) QV)) (P := fun i g => FL [(49, -1)] h g ∧ i < d.2.2.2.2.1 ∧ ∀ (c : Nat) (b : Int), c < d.2.2.2.2.2.1 → 0 ≤ b → b < 6 → g 49 ((c : Int) * 6 + b) = fst1 (tmt d c b) (i + 1).toNat (d.2.2.2.2.1 - (i + 1).toNat)) ?_ ?_ _ g (by omega) ⟨p.1, by omega, ?_⟩
    · intro i g h0 p k
      obtain ⟨d1, d2, d3, d4, d5, d6, d7⟩ := hd.fl p.1 rfl
      obtain ⟨r, rfl⟩ : ∃ r : Nat, i = r := ⟨i.toNat, by omega⟩
      have hr := o4 r (by omega)
      refine b_X8_findFirst_33 hn ⟨by constructor <;> omega, iteN (by omega) ⟨⟨h0, by omega⟩, ?_⟩⟩
      rw [d1, d2]
      refine ⟨⟨by omega, by omega⟩, ?_⟩
      rw [show (r : Int) + (-1) = (r : Int) - 1 by omega]
      refine k _ ⟨p.1.ua rfl, by omega, ?_⟩
      intro c b hc b0 b1
      have q := p.2.2 c b hc b0 b1
      have e1 : ((r : Int) - 1 + 1).toNat = r := by omega
      have e2 : ((r : Int) + 1).toNat = r + 1 := by omega
      have e3 : d.2.2.2.2.1 - r = (d.2.2.2.2.1 - (r + 1)) + 1 := by omega
      rw [e2] at q
      rw [e1, e3]
      unfold fst1
      by_cases e : tmt d c b r = true
      · rw [e, if_pos rfl]
        have e' := of_decide_eq_true e
        rw [e'.1, e'.2]
        simp [hu]
      · have e0 : tmt d c b r = false := by simpa using e
        rw [e0]
        simp only [Bool.false_eq_true, if_false]
        rw [← q]
        have ne : ¬ ((c : Int) * 6 + b = d.1 r * 6 + d.2.1 r) := fun e' => e (decide_eq_true (by constructor <;> omega))
        simp [hu, ne]
    · intro g p
      refine b_X8_findFirst_33 hn ⟨by decide, iteP (by decide) (hq g p.1 ?_)⟩
      intro c b hc b0 b1
      exact p.2.2 c b hc b0 b1
    · intro c b hc b0 b1
      rw [p.2 _ (by omega) (by omega)]
      have e : d.2.2.2.2.1 - ((d.2.2.2.2.1 : Int) - 1 + 1).toNat = 0 := by omega
      rw [e]; rfl
theorem s_shares (hn : 144 ≤ ζ.2.2.2.2) {d : TD} {t : TS} (ok : TDok d) (hw : TWX d t h) (hf : TFX d h) {c : Nat} {b : Int} (hc : c < d.2.2.2.2.2.1) (hb : 0 ≤ b ∧ b < 6) (hq : Q (if tsh d t.1 b c then 1 else 0) h) : RtI l (D + 2) mX8_shares (zz ζ) [aP 40, aI c, aI b] h Q := by
  obtain ⟨o1, o2, o3, o4⟩ := ok
  have w := (hw c (by omega) (by omega)).1
  have n1 := cN_bd (rdq d t.1 c) d.2.2.2.2.1
  have n2 : tcn d t.1 c = cN (rdq d t.1 c) d.2.2.2.2.1 := rfl
  refine e_X8_shares hn (s_has hn ⟨by omega, by omega⟩ (by rw [w, n2]; constructor <;> omega) ?_)
  by_cases e : h 46 c ≤ 0
  · rw [if_pos e]
    have : tsh d t.1 b c = false := decide_eq_false (fun q => by have := q.1; omega)
    rw [this] at hq
    exact ⟨by decide, iteP rfl hq⟩
  · rw [if_neg e]
    have ft := tfs_bd d c b
    refine ⟨by decide, iteN (by decide) ⟨⟨by omega, by omega⟩, ?_⟩⟩
    rw [hf c b hc hb.1 hb.2]
    refine ⟨by constructor <;> omega, iteI (fun q => ?_) (fun q => ?_)⟩
    · have : tsh d t.1 b c = false := decide_eq_false (fun q' => q'.2 q)
      rw [this] at hq; exact hq
    · have : tsh d t.1 b c = true := decide_eq_true ⟨by omega, q⟩
      rw [this] at hq; exact hq
theorem s_nextBench (hn : 144 ≤ ζ.2.2.2.2) {d : TD} {t : TS} (ok : TDok d) (hd : TDX d h) (ht : TSX t h) (hj : ∀ b : Int, 0 ≤ b → b < 6 → t.1 b = 0 ∨ t.1 b = 1) (h1 : 0 < d.2.2.2.2.2.2 → t.1 0 = 1) (hw : TWX d t h) (hf : TFX d h) (hB : 0 < d.2.2.2.2.2.2) (hq : Q (tnx d t.1) h) : RtI l (D + 3) mX8_nextBench (zz ζ) [aP 40, aP 3] h Q := by
  have okd := ok
  obtain ⟨o1, o2, o3, o4⟩ := ok
  obtain ⟨d1, d2, d3, d4, d5, d6, d7⟩ := id hd
  refine e_X8_nextBench hn ?_
  have nbb := fun (b : Nat) => nbF_bd (tnn d t.1) b
  have tnb : ∀ b : Nat, 0 ≤ tnn d t.1 b ∧ tnn d t.1 b ≤ 60 := fun b => by
    unfold tnn
    have := cN_bd (tsh d t.1 b) d.2.2.2.2.2.1
    split <;> omega
  have nbm : ∀ b : Nat, (nbF (tnn d t.1) b).2 ≤ 60 := fun b => by
    rcases (nbb b).2 with q | q
    · omega
    · have := tnb (nbF (tnn d t.1) b).1.toNat; omega
  have main : ∀ (n b : Nat), b + n = d.2.2.2.2.2.2 → 1 ≤ b → G l (D + 3) 0 0 mX8_nextBench (zz ζ) 7 [aP 40, aP 3, aI (nbF (tnn d t.1) b).1, aI (nbF (tnn d t.1) b).2, aI b, aU, aU] [] h (qI (zz ζ) Q) := by
    intro n
    induction n with
    | zero =>
      intro b hb b1
      refine b_X8_nextBench_7 hn ⟨by constructor <;> omega, by rw [d7]; constructor <;> omega, iteP (by rw [d7]; omega) ?_⟩
      have : b = d.2.2.2.2.2.2 := by omega
      subst this
      exact hq
    | succ n ih =>
      intro b hb b1
      refine b_X8_nextBench_7 hn ⟨by constructor <;> omega, by rw [d7]; constructor <;> omega, iteN (by rw [d7]; omega) ?_⟩
      have fin : ∀ (v : Int), v = tnn d t.1 b → (if v ≤ (nbF (tnn d t.1) b).2 then G l (D + 3) 0 0 mX8_nextBench (zz ζ) 7 [aP 40, aP 3, aI (nbF (tnn d t.1) b).1, aI (nbF (tnn d t.1) b).2, aI ((b : Int) + 1), aU, aU] [] h (qI (zz ζ) Q) else G l (D + 3) 0 0 mX8_nextBench (zz ζ) 7 [aP 40, aP 3, aI (b : Int), aI v, aI ((b : Int) + 1), aU, aU] [] h (qI (zz ζ) Q)) := by
        intro v hv
        subst hv
        have k := ih (b + 1) (by omega) (by omega)
        have eb : ((b + 1 : Nat) : Int) = (b : Int) + 1 := by omega
        rw [eb] at k
        unfold nbF at k
        refine iteI (fun q => ?_) (fun q => ?_)
        · rw [if_neg (by omega)] at k; exact k
        · rw [if_pos (by omega)] at k; exact k
      have jb := hj b (by omega) (by omega)
      have ej : h 41 b = t.1 b := ht.1 b (by omega) (by omega)
      have inner : ∀ (m c : Nat), c + m = d.2.2.2.2.2.1 → (t.1 b ≠ 0 → c = 0) → G l (D + 3) 0 0 mX8_nextBench (zz ζ) 25 [aP 40, aP 3, aI (nbF (tnn d t.1) b).1, aI (nbF (tnn d t.1) b).2, aI b, aI (cN (tsh d t.1 b) c), aI c] [] h (qI (zz ζ) Q) := by
        intro m
        induction m with
        | zero =>
          intro c hc hc0
          have cc : c = d.2.2.2.2.2.1 := by omega
          have cb := cN_bd (tsh d t.1 b) c
          have nb' := nbm b
          have nb0 := (nbb b).1
          refine b_X8_nextBench_25 hn ⟨by constructor <;> omega, by rw [d6]; constructor <;> omega, iteP (by rw [d6]; omega) ⟨by constructor <;> omega, by constructor <;> omega, fin _ ?_⟩⟩
          unfold tnn
          by_cases e : t.1 b ≠ 0
          · rw [if_pos e, hc0 e]; rfl
          · rw [if_neg e, cc]
        | succ m ihm =>
          intro c hc hc0
          have cb := cN_bd (tsh d t.1 b) c
          have nb' := nbm b
          have nb0 := (nbb b).1
          refine b_X8_nextBench_25 hn ⟨by constructor <;> omega, by rw [d6]; constructor <;> omega, iteN (by rw [d6]; omega) ⟨⟨by omega, by omega⟩, ?_⟩⟩
          rw [ej]
          refine ⟨by rcases jb with e | e <;> rw [e] <;> decide, iteI (fun q => ?_) (fun q => ?_)⟩
          · refine ⟨by constructor <;> omega, by constructor <;> omega, fin _ ?_⟩
            unfold tnn
            rw [if_pos q, hc0 q]; rfl
          · refine s_shares hn okd hw hf (by omega) ⟨by omega, by omega⟩ ?_
            have k := ihm (c + 1) (by omega) (fun e => absurd e (by simpa using q))
            have ec : ((c + 1 : Nat) : Int) = (c : Int) + 1 := by omega
            rw [ec] at k
            unfold cN at k
            cases e : tsh d t.1 b c with
            | true => rw [e] at k; exact ⟨by decide, iteN (by decide) k⟩
            | false => rw [e] at k; exact ⟨by decide, iteP rfl k⟩
      exact inner d.2.2.2.2.2.1 0 (by omega) (fun _ => rfl)
  have m1 := main (d.2.2.2.2.2.2 - 1) 1 (by omega) (by omega)
  have t0 : tnn d t.1 0 = 0 := by
    unfold tnn
    rw [if_pos (by show t.1 ((0 : Nat) : Int) ≠ 0; rw [show ((0 : Nat) : Int) = 0 from rfl, h1 hB]; decide)]
  have e1 : nbF (tnn d t.1) 1 = (-1, 0) := by
    unfold nbF
    rw [t0]; rfl
  rw [e1] at m1
  exact m1
end TRX2
