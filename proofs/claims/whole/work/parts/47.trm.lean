/-! TRUTH, the reference's side -/
def TDM (d : TD) (h : HI) : Prop := h 99 12 = d.2.2.2.2.1 ∧ h 99 11 = d.2.2.2.2.2.1 ∧ h 99 0 = d.2.2.2.2.2.2 ∧ ∀ r : Nat, r < d.2.2.2.2.1 → h 99 (77 + 4 * (r : Int)) = d.1 r ∧ h 99 (77 + 4 * (r : Int) + 1) = d.2.1 r ∧ h 99 (77 + 4 * (r : Int) + 2) = d.2.2.1 r ∧ h 99 (77 + 4 * (r : Int) + 3) = d.2.2.2.1 r
theorem TDM.fl {d : TD} {h h' : HI} {L : List (Nat × Int)} (t : TDM d h) (f : FL L h h') (c : inC L 99 = false) : TDM d h' := by
  unfold TDM
  rw [f.c 99 c]; exact t
def TSM (t : TS) (h : HI) : Prop := ag6 (h 103) t.1 ∧ ag6 (h 104) t.2.1 ∧ ag6 (h 105) t.2.2
def TWM1 (d : TD) (t : TS) (h : HI) (c : Int) : Prop := h 109 c = tcn d t.1 c ∧ h 106 c = (if tcn d t.1 c = 0 then -1 else thv d t.1 d.2.2.1 t.2.1 c) ∧ h 107 c = (if tcn d t.1 c = 0 then -1 else thv d t.1 d.2.2.2.1 t.2.2 c) ∧ h 108 c = (if tcn d t.1 c = 0 then -1 else thi d t.1 d.2.2.1 t.2.1 c - tlo d t.1 d.2.2.1 t.2.1 c)
def TWM (d : TD) (t : TS) (h : HI) : Prop := ∀ c : Int, 0 ≤ c → c < d.2.2.2.2.2.1 → TWM1 d t h c
theorem TSM.fl {t : TS} {h h' : HI} {L : List (Nat × Int)} (w : TSM t h) (f : FL L h h') (c : (!inC L 103 && !inC L 104 && !inC L 105) = true) : TSM t h' := by
  simp only [Bool.and_eq_true, Bool.not_eq_true'] at c
  obtain ⟨⟨c1, c2⟩, c3⟩ := c
  unfold TSM
  rw [f.c 103 c1, f.c 104 c2, f.c 105 c3]; exact w
theorem TWM.fl {d : TD} {t : TS} {h h' : HI} {L : List (Nat × Int)} (w : TWM d t h) (f : FL L h h') (c : (!inC L 106 && !inC L 107 && !inC L 108 && !inC L 109) = true) : TWM d t h' := by
  simp only [Bool.and_eq_true, Bool.not_eq_true'] at c
  obtain ⟨⟨⟨c1, c2⟩, c3⟩, c4⟩ := c
  intro c q0 q1
  have := w c q0 q1
  unfold TWM1 at this ⊢
  rw [f.c 106 c1, f.c 107 c2, f.c 108 c3, f.c 109 c4]; exact this
theorem max1 (x : Int) : (if 1 ≤ x then x else 1) = max 1 x := by
  split <;> omega
theorem tdiv_lo (a b : Int) (hb : 0 < b) (ha : -1400000 ≤ a) : -1400000 ≤ a.tdiv b := by
  by_cases a0 : 0 ≤ a
  · have := Int.tdiv_nonneg a0 (Int.le_of_lt hb); omega
  · have e := Int.neg_tdiv (-a) b
    rw [Int.neg_neg] at e
    have := Int.tdiv_le_self (a := -a) b (by omega)
    omega
theorem tdiv_hi (a b : Int) (hb : 0 < b) (ha : a ≤ 1400000) : a.tdiv b ≤ 1400000 := by
  by_cases a0 : 0 ≤ a
  · have := Int.tdiv_le_self (a := a) b a0; omega
  · have e := Int.neg_tdiv (-a) b
    rw [Int.neg_neg] at e
    have := Int.tdiv_nonneg (a := -a) (b := b) (by omega) (Int.le_of_lt hb)
    omega
section TRM
variable {l : Launch} {D : Nat} {ζ : ZP} {h : HI} {Q : Int → HI → Prop} {QV : HI → Prop} {x y : Int}
theorem s_trueOf (hn : 144 ≤ ζ.2.2.2.2) {d : TD} {t : TS} {K : Int} (ok : TDok d) (hd : TDM d h) (ht : TSM t h) (hK : 0 ≤ K ∧ K ≤ 5000) (hb : tbd K t) {c : Int} (hc : 0 ≤ c ∧ c < 60) (hq : ∀ h', FL [(106, -1), (107, -1), (108, -1), (109, -1)] h h' → (∀ c', c' ≠ c → TWM1 d t h c' → TWM1 d t h' c') → TWM1 d t h' c → QV h') : RtV l (D + 1) mX12_trueOf (zz ζ) [aP 97, aI c] h QV := by
  have okd := ok
  obtain ⟨o1, o2, o3, o4⟩ := ok
  obtain ⟨d1, d2, d3, d4⟩ := hd
  have hxb : ∀ r, r < d.2.2.2.2.1 → (-7000 ≤ rdx d d.2.2.1 t.2.1 r ∧ rdx d d.2.2.1 t.2.1 r ≤ 7000) ∧ (-7000 ≤ rdx d d.2.2.2.1 t.2.2 r ∧ rdx d d.2.2.2.1 t.2.2 r ≤ 7000) := fun r hr => by
    have := rdx_bd okd hb r hr
    omega
  refine e_X12_trueOf hn ?_
  have main : ∀ (m r : Nat), r + m = d.2.2.2.2.1 → G l (D + 1) 0 0 mX12_trueOf (zz ζ) 16 [aP 97, aI c, aI (cS (rdq d t.1 c) (rdx d d.2.2.1 t.2.1) r), aI (cS (rdq d t.1 c) (rdx d d.2.2.2.1 t.2.2) r), aI (cN (rdq d t.1 c) r), aI (cLo (rdq d t.1 c) (rdx d d.2.2.1 t.2.1) r), aI (cHi (rdq d t.1 c) (rdx d d.2.2.1 t.2.1) r), aI r, aU, aU, aU] [] h (qV (zz ζ) QV) := by
    intro m
    induction m with
    | zero =>
      intro r hr
      have er : r = d.2.2.2.2.1 := by omega
      subst er
      have n1 := cN_bd (rdq d t.1 c) d.2.2.2.2.1
      have s1 := cS_bd (q := rdq d t.1 c) (x := rdx d d.2.2.1 t.2.1) (n := d.2.2.2.2.1) (fun r hr _ => (hxb r hr).1)
      have s2 := cS_bd (q := rdq d t.1 c) (x := rdx d d.2.2.2.1 t.2.2) (n := d.2.2.2.2.1) (fun r hr _ => (hxb r hr).2)
      refine b_X12_trueOf_16 hn ⟨by constructor <;> omega, by rw [d1]; constructor <;> omega, iteP (by rw [d1]; omega) ⟨hc, by constructor <;> omega, ?_⟩⟩
      have other : ∀ (v1 v2 v3 v4 : Int) (c' : Int), c' ≠ c → TWM1 d t h c' → TWM1 d t (hu (hu (hu (hu h 109 c v1) 108 c v2) 106 c v3) 107 c v4) c' := by
        intro v1 v2 v3 v4 c' hc' q
        unfold TWM1 at q ⊢
        simp [hu, hc']
        exact q
      by_cases z : cN (rdq d t.1 c) d.2.2.2.2.1 = 0
      · refine iteN (by omega) (b_X12_trueOf_194 hn ⟨hc, by constructor <;> omega, iteN (by omega) ⟨hc, iteN (by omega) (hq _ ((((FL.refl.ua rfl).ua rfl).ua rfl).ua rfl) (other _ _ _ _) ?_)⟩⟩)
        have z' : tcn d t.1 c = 0 := z
        unfold TWM1
        rw [z']
        simp [hu, z]
      · have z' : tcn d t.1 c ≠ 0 := z
        have q1 := tdiv_lo _ _ (show 0 < cN (rdq d t.1 c) d.2.2.2.2.1 by omega) (show -1400000 ≤ cS (rdq d t.1 c) (rdx d d.2.2.1 t.2.1) d.2.2.2.2.1 by omega)
        have q2 := tdiv_hi _ _ (show 0 < cN (rdq d t.1 c) d.2.2.2.2.1 by omega) (show cS (rdq d t.1 c) (rdx d d.2.2.1 t.2.1) d.2.2.2.2.1 ≤ 1400000 by omega)
        have q3 := tdiv_lo _ _ (show 0 < cN (rdq d t.1 c) d.2.2.2.2.1 by omega) (show -1400000 ≤ cS (rdq d t.1 c) (rdx d d.2.2.2.1 t.2.2) d.2.2.2.2.1 by omega)
        have q4 := tdiv_hi _ _ (show 0 < cN (rdq d t.1 c) d.2.2.2.2.1 by omega) (show cS (rdq d t.1 c) (rdx d d.2.2.2.1 t.2.2) d.2.2.2.2.1 ≤ 1400000 by omega)
        have fin : ∀ v3 v4, v3 = thv d t.1 d.2.2.1 t.2.1 c → v4 = thv d t.1 d.2.2.2.1 t.2.2 c → QV (hu (hu (hu (hu h 109 c (cN (rdq d t.1 c) d.2.2.2.2.1)) 108 c (cHi (rdq d t.1 c) (rdx d d.2.2.1 t.2.1) d.2.2.2.2.1 - cLo (rdq d t.1 c) (rdx d d.2.2.1 t.2.1) d.2.2.2.2.1)) 106 c v3) 107 c v4) := by
          intro v3 v4 e3 e4
          refine hq _ ((((FL.refl.ua rfl).ua rfl).ua rfl).ua rfl) (other _ _ _ _) ?_
          unfold TWM1
          rw [if_neg z', if_neg z', if_neg z']
          simp [hu, e3, e4, tcn, thi, tlo]
        have e3 : thv d t.1 d.2.2.1 t.2.1 c = (if 1 ≤ (cS (rdq d t.1 c) (rdx d d.2.2.1 t.2.1) d.2.2.2.2.1).tdiv (cN (rdq d t.1 c) d.2.2.2.2.1) then (cS (rdq d t.1 c) (rdx d d.2.2.1 t.2.1) d.2.2.2.2.1).tdiv (cN (rdq d t.1 c) d.2.2.2.2.1) else 1) := by
          rw [max1]; unfold thv tvl; rw [if_neg z']; rfl
        have e4 : thv d t.1 d.2.2.2.1 t.2.2 c = (if 1 ≤ (cS (rdq d t.1 c) (rdx d d.2.2.2.1 t.2.2) d.2.2.2.2.1).tdiv (cN (rdq d t.1 c) d.2.2.2.2.1) then (cS (rdq d t.1 c) (rdx d d.2.2.2.1 t.2.2) d.2.2.2.2.1).tdiv (cN (rdq d t.1 c) d.2.2.2.2.1) else 1) := by
          rw [max1]; unfold thv tvl; rw [if_neg z']; rfl
        refine iteP z (b_X12_trueOf_194 hn ⟨hc, by constructor <;> omega, iteP z ⟨by constructor <;> omega, z, by constructor <;> omega, iteI (fun w1 => ⟨hc, iteP z ⟨by constructor <;> omega, by constructor <;> omega, iteI (fun w2 => fin _ _ ?_ ?_) (fun w2 => fin _ _ ?_ ?_)⟩⟩) (fun w1 => ⟨hc, iteP z ⟨by constructor <;> omega, by constructor <;> omega, iteI (fun w2 => fin _ _ ?_ ?_) (fun w2 => fin _ _ ?_ ?_)⟩⟩)⟩⟩)
        all_goals first
          | (rw [e3, if_pos w1]; done)
          | (rw [e3, if_neg w1]; done)
          | (rw [e4, if_pos w2]; done)
          | (rw [e4, if_neg w2]; done)
    | succ m ih =>
      intro r hr
      have hr4 := o4 r (by omega)
      obtain ⟨r1, r2, r3, r4⟩ := d4 r (by omega)
      have k := ih (r + 1) (by omega)
      have ec : ((r + 1 : Nat) : Int) = (r : Int) + 1 := by omega
      rw [ec] at k
      unfold cS cN cLo cHi at k
      have ej : h 103 (d.2.1 r) = t.1 (d.2.1 r) := ht.1 _ (by omega) (by omega)
      have eh : h 104 (d.2.1 r) = t.2.1 (d.2.1 r) := ht.2.1 _ (by omega) (by omega)
      have ep : h 105 (d.2.1 r) = t.2.2 (d.2.1 r) := ht.2.2 _ (by omega) (by omega)
      have hj := (hb (d.2.1 r) (by omega) (by omega)).1
      have hx := hxb r (by omega)
      have n1 := cN_bd (rdq d t.1 c) r
      have b1 := cLo_bd (q := rdq d t.1 c) (x := rdx d d.2.2.1 t.2.1) (n := r) (fun r' hr' _ => (hxb r' (by omega)).1)
      have b2 := cHi_bd (q := rdq d t.1 c) (x := rdx d d.2.2.1 t.2.1) (n := r) (fun r' hr' _ => (hxb r' (by omega)).1)
      refine b_X12_trueOf_16 hn ⟨by constructor <;> omega, by rw [d1]; constructor <;> omega, iteN (by rw [d1]; omega) ⟨⟨by omega, by omega⟩, ⟨by omega, by omega⟩, ?_⟩⟩
      rw [r1, r2, r3]
      refine ⟨by constructor <;> omega, by constructor <;> omega, iteI (fun q => ?_) (fun q => ⟨⟨by omega, by omega⟩, ?_⟩)⟩
      · have hf : rdq d t.1 c r = false := decide_eq_false (fun e => q e.1)
        rw [hf] at k
        simp only [Bool.false_eq_true, if_false, Int.add_zero] at k
        exact k
      · rw [ej, eh]
        refine ⟨by rcases hj with e | e <;> rw [e] <;> decide, iteI (fun q2 => ⟨⟨by omega, by omega⟩, by constructor <;> omega, ?_⟩) (fun q2 => ?_)⟩
        rotate_left
        · have hf : rdq d t.1 c r = false := decide_eq_false (fun e => q2 e.2)
          rw [hf] at k
          simp only [Bool.false_eq_true, if_false, Int.add_zero] at k
          exact k
        · have hf : rdq d t.1 c r = true := decide_eq_true ⟨by omega, q2⟩
          rw [hf] at k
          simp only [if_true] at k
          have x1 : d.2.2.1 r - t.2.1 (d.2.1 r) = rdx d d.2.2.1 t.2.1 r := rfl
          have x2 : d.2.2.2.1 r - t.2.2 (d.2.1 r) = rdx d d.2.2.2.1 t.2.2 r := rfl
          rw [x1]
          have e8 : h 99 (77 + 4 * (r : Int) + 3) - h 105 (d.2.1 r) = rdx d d.2.2.2.1 t.2.2 r := by rw [r4, ep]; rfl
          have step2 : ∀ s0, s0 = (if cN (rdq d t.1 c) r = 0 then rdx d d.2.2.1 t.2.1 r else min (cLo (rdq d t.1 c) (rdx d d.2.2.1 t.2.1) r) (rdx d d.2.2.1 t.2.1 r)) → G l (D + 1) 0 0 mX12_trueOf (zz ζ) 110 [aP 97, aI c, aI (cS (rdq d t.1 c) (rdx d d.2.2.1 t.2.1) r), aI (cS (rdq d t.1 c) (rdx d d.2.2.2.1 t.2.2) r), aI (cN (rdq d t.1 c) r), aU, aI (cHi (rdq d t.1 c) (rdx d d.2.2.1 t.2.1) r), aI r, aI (77 + 4 * (r : Int)), aI (d.2.1 r), aI (rdx d d.2.2.1 t.2.1 r)] [aI s0] h (qV (zz ζ) QV) := by
            intro s0 hs0
            rw [← hs0] at k
            refine b_X12_trueOf_110 hn ⟨by constructor <;> omega, ?_⟩
            rw [e8]
            refine iteI (fun z => ⟨⟨by omega, by omega⟩, ⟨by omega, by omega⟩, ?_⟩) (fun z => ⟨by constructor <;> omega, by constructor <;> omega, iteI (fun z2 => ⟨⟨by omega, by omega⟩, ⟨by omega, by omega⟩, ?_⟩) (fun z2 => ⟨⟨by omega, by omega⟩, ⟨by omega, by omega⟩, ?_⟩)⟩)
            · rw [if_pos z] at k; exact k
            · rw [if_neg z, Int.max_eq_left z2] at k; exact k
            · rw [if_neg z, Int.max_eq_right (by omega)] at k; exact k
          refine iteI (fun z => step2 _ ?_) (fun z => ⟨by constructor <;> omega, by constructor <;> omega, iteI (fun z2 => step2 _ ?_) (fun z2 => step2 _ ?_)⟩)
          · rw [if_pos z]
          · rw [if_neg z, Int.min_eq_left z2]
          · rw [if_neg z, Int.min_eq_right (by omega)]
  have m0 := main d.2.2.2.2.1 0 (by omega)
  exact m0
theorem s_firstOn (hn : 144 ≤ ζ.2.2.2.2) {d : TD} (ok : TDok d) (hd : TDM d h) {c b : Int} (hc : rg c) (hb : rg b) (hq : Q (tfs d c b) h) : RtI l (D + 1) mX12_firstOn (zz ζ) [aP 97, aI c, aI b] h Q := by
  obtain ⟨o1, o2, o3, o4⟩ := ok
  obtain ⟨d1, d2, d3, d4⟩ := hd
  refine e_X12_firstOn hn ?_
  have main : ∀ (m r : Nat), r + m = d.2.2.2.2.1 → fst1 (tmt d c b) r m = tfs d c b → G l (D + 1) 0 0 mX12_firstOn (zz ζ) 2 [aP 97, aI c, aI b, aI r] [] h (qI (zz ζ) Q) := by
    intro m
    induction m with
    | zero =>
      intro r hr e
      refine b_X12_firstOn_2 hn ⟨by constructor <;> omega, by rw [d1]; constructor <;> omega, iteP (by rw [d1]; omega) ?_⟩
      rw [← e] at hq; exact hq
    | succ m ih =>
      intro r hr e
      have hr4 := o4 r (by omega)
      obtain ⟨r1, r2, r3, r4⟩ := d4 r (by omega)
      have ec : ((r + 1 : Nat) : Int) = (r : Int) + 1 := by omega
      have k := ih (r + 1) (by omega)
      rw [ec] at k
      unfold fst1 at e
      refine b_X12_firstOn_2 hn ⟨by constructor <;> omega, by rw [d1]; constructor <;> omega, iteN (by rw [d1]; omega) ⟨⟨by omega, by omega⟩, ?_⟩⟩
      rw [r1, r2]
      refine ⟨by constructor <;> omega, hc, iteI (fun q => ?_) (fun q => ⟨⟨by omega, by omega⟩, by constructor <;> omega, hb, iteI (fun q2 => ?_) (fun q2 => ?_)⟩)⟩
      · have hf : tmt d c b r = false := decide_eq_false (fun e => q e.1)
        rw [hf] at e
        exact k e
      · have hf : tmt d c b r = false := decide_eq_false (fun e => q2 e.2)
        rw [hf] at e
        exact k e
      · have hf : tmt d c b r = true := decide_eq_true ⟨by omega, by omega⟩
        rw [hf] at e
        simp only [if_true] at e
        rw [← e] at hq
        exact hq
  exact main d.2.2.2.2.1 0 (by omega) rfl
end TRM
