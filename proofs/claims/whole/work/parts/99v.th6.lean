/-! the calls that may throw: row, fall -/
theorem gcd_half {x y : Nat} (hy : 0 < y) (hr : 0 < x % y) : 2 * (y % (x % y)) < y := by
  have h1 := Nat.mod_lt x hy
  have h2 := Nat.mod_lt y hr
  have h3 := Nat.div_add_mod y (x % y)
  have h4 : 1 ≤ y / (x % y) := (Nat.le_div_iff_mul_le hr).mpr (by omega)
  have h5 := Nat.le_mul_of_pos_right (x % y) h4
  omega
theorem gcd_step (x y : Nat) : Nat.gcd x y = Nat.gcd y (x % y) := by
  rw [Nat.gcd_comm, Nat.gcd_rec, Nat.gcd_comm]
theorem tmod_nat (x y : Nat) : (x : Int).tmod (y : Int) = ((x % y : Nat) : Int) := by
  rw [Int.tmod_eq_emod_of_nonneg (by omega)]; rfl
theorem tdiv_bd {v : Int} {g : Nat} {K : Int} (hK : -K ≤ v ∧ v ≤ K) : -K ≤ v.tdiv g ∧ v.tdiv g ≤ K := by
  by_cases c : 0 ≤ v
  · have a := Int.tdiv_nonneg (a := v) (b := (g : Int)) c (by omega)
    have b := Int.tdiv_le_self (a := v) (g : Int) c
    omega
  · have e : v.tdiv g = -((-v).tdiv g) := by rw [Int.neg_tdiv, Int.neg_neg]
    have a := Int.tdiv_nonneg (a := -v) (b := (g : Int)) (by omega) (by omega)
    have b := Int.tdiv_le_self (a := -v) (g : Int) (by omega)
    omega
section TH6
variable {l : Launch} {D : Nat} {ζ : ZP} {h : HI} {Q : Int → HI → Prop} {x y w : Int}
theorem s_gcdX (hn : 144 ≤ ζ.2.2.2.2) {a b : Int} (ha : -4200 ≤ a ∧ a ≤ 4200) (hb : 0 ≤ b ∧ b ≤ 99) (hq : Q (Nat.gcd a.natAbs b.natAbs) h) : RtI l (D + 1) mX11_greatestDivisor (zz ζ) [aI a, aI b] h Q := by
  have main : ∀ (m x y f : Nat), y < 2 ^ m → 2 * m ≤ f → f ≤ 64 → x ≤ 4200 → y ≤ 4200 → (Q (Nat.gcd x y) h) → G l (D + 1) 0 0 mX11_greatestDivisor (zz ζ) 17 [aU, aU, aI x, aI y, aI f, aU] [] h (qI (zz ζ) Q) := by
    intro m
    induction m with
    | zero =>
      intro x y f hy hf f64 hx hy2 hQ
      have : y = 0 := by simpa using hy
      subst this
      rw [Nat.gcd_zero_right] at hQ
      exact b_X11_greatestDivisor_17 hn ⟨by constructor <;> omega, iteI (fun _ => hQ) (fun _ => ⟨by decide, iteP rfl hQ⟩)⟩
    | succ m ih =>
      intro x y f hy hf f64 hx hy2 hQ
      have hp : 2 ^ (m + 1) = 2 * 2 ^ m := by rw [Nat.pow_succ, Nat.mul_comm]
      refine b_X11_greatestDivisor_17 hn ⟨by constructor <;> omega, iteN (by omega) ⟨by constructor <;> omega, iteI (fun z => ?_) (fun z => ⟨by constructor <;> omega, z, ?_⟩)⟩⟩
      · have : y = 0 := by omega
        subst this
        rw [Nat.gcd_zero_right] at hQ
        exact hQ
      · have y0 : 0 < y := by omega
        have r1 := Nat.mod_lt x y0
        rw [tmod_nat, show (f : Int) + (-1) = ((f - 1 : Nat) : Int) by omega]
        rw [gcd_step] at hQ
        refine b_X11_greatestDivisor_17 hn ⟨by constructor <;> omega, iteN (by omega) ⟨by constructor <;> omega, iteI (fun z2 => ?_) (fun z2 => ⟨by constructor <;> omega, z2, ?_⟩)⟩⟩
        · have : x % y = 0 := by omega
          rw [this, Nat.gcd_zero_right] at hQ
          exact hQ
        · have half := gcd_half (x := x) y0 (by omega)
          have r2 := Nat.mod_lt y (show 0 < x % y by omega)
          rw [tmod_nat, show ((f - 1 : Nat) : Int) + (-1) = ((f - 2 : Nat) : Int) by omega]
          rw [gcd_step] at hQ
          exact ih (x % y) (y % (x % y)) (f - 2) (by omega) (by omega) (by omega) (by omega) (by omega) hQ
  have eb : b = (b.natAbs : Int) := by omega
  have k := main 7 a.natAbs b.natAbs 64 (by show b.natAbs < 128; omega) (by decide) (by decide) (by omega) (by omega) hq
  refine e_X11_greatestDivisor hn ⟨by constructor <;> omega, iteI (fun z => ?_) (fun z => ?_)⟩
  · rw [show ((a.natAbs : Nat) : Int) = a by omega, ← eb] at k
    exact k
  · rw [show ((a.natAbs : Nat) : Int) = -a by omega, ← eb] at k
    exact k
theorem s_gcdM (hn : 144 ≤ ζ.2.2.2.2) {a b : Int} (ha : -4200 ≤ a ∧ a ≤ 4200) (hb : 0 ≤ b ∧ b ≤ 99) (hq : Q (Nat.gcd a.natAbs b.natAbs) h) : RtI l (D + 2) mX12_common (zz ζ) [aI a, aI b] h Q := by
  have main : ∀ (n x y : Nat), y ≤ n → x ≤ 4200 → y ≤ 4200 → (Q (Nat.gcd x y) h) → G l (D + 2) 0 0 mX12_common (zz ζ) 10 [aU, aU, aI x, aI y, aU] [] h (qI (zz ζ) Q) := by
    intro n
    induction n with
    | zero =>
      intro x y hy hx hy2 hQ
      have : y = 0 := by omega
      subst this
      rw [Nat.gcd_zero_right] at hQ
      exact b_X12_common_10 hn ⟨by decide, iteP rfl hQ⟩
    | succ n ih =>
      intro x y hy hx hy2 hQ
      refine b_X12_common_10 hn ⟨by constructor <;> omega, iteI (fun z => ?_) (fun z => ⟨by constructor <;> omega, z, ?_⟩)⟩
      · have : y = 0 := by omega
        subst this
        rw [Nat.gcd_zero_right] at hQ
        exact hQ
      · have r1 := Nat.mod_lt x (show 0 < y by omega)
        rw [tmod_nat]
        rw [gcd_step] at hQ
        exact ih y (x % y) (by omega) (by omega) (by omega) hQ
  have k := main b.natAbs a.natAbs b.natAbs (Nat.le_refl _) (by omega) (by omega) hq
  have eb : b = (b.natAbs : Int) := by omega
  have pl : ∀ {v : Int} {R : Int → HI → Prop}, -4200 ≤ v ∧ v ≤ 4200 → R (v.natAbs : Int) h → RtI l (D + 1) mX12_plain (zz ζ) [aI v] h R := fun {v R} hv hR => by
    refine e_X12_plain hn ⟨by constructor <;> omega, iteI (fun z => ?_) (fun z => ?_)⟩
    · rw [show ((v.natAbs : Nat) : Int) = v by omega] at hR; exact hR
    · rw [show ((v.natAbs : Nat) : Int) = -v by omega] at hR; exact hR
  exact e_X12_common hn (pl ha (pl ⟨by omega, by omega⟩ k))
theorem op_fall (hl9 : l.stackTraces = false) (i : Inv ζ h) (rx : rg x) (ry : rg y) : OpT l (D + 60) ζ mX11_fall mX12_fall [aI x, aI y] h := by
  have hn := ζok_n i.1.1
  have sr : SR (stk 3 h) (h 99) (h 101) := i.1.2 2
  have a2 : h 99 11 = h 3 3 ∧ 0 ≤ h 3 3 ∧ h 3 3 ≤ 60 := ⟨sr.2.1.1.2.2, sr.2.1.1.1, sr.2.1.1.2.1⟩
  have rb : rg (h 3 3) := by constructor <;> omega
  have rb1 : rg (h 99 11 - 1) := by constructor <;> omega
  have k := rsK_of sr
  have kn : (stk 3 h 0 10).toNat = (h 3 10).toNat := rfl
  rw [kn] at k
  by_cases c1 : 0 ≤ x ∧ x ≤ h 3 3 - 1
  rotate_left
  · left
    refine ⟨x_X11_fall (D := D + 54) hl9 hn (s_hasCell hn rx rb ?_), e_X12_fall hn (s_isCell hn rx rb1 ?_)⟩
    · rw [if_neg c1]
      exact ⟨by decide, iteP rfl rfl⟩
    · rw [a2.1, if_neg c1]
      exact ⟨by decide, iteP rfl (s_thr1 hn ⟨by decide, iteN (by decide) (ot_thr i)⟩)⟩
  by_cases c2 : 0 ≤ y ∧ y ≤ 1
  rotate_left
  · left
    refine ⟨x_X11_fall (D := D + 54) hl9 hn (s_hasCell hn rx rb ?_), e_X12_fall hn (s_isCell hn rx rb1 ?_)⟩
    · rw [if_pos c1]
      refine ⟨by decide, iteN (by decide) (s_within hn ry (by decide) (by decide) ?_)⟩
      rw [if_neg c2]
      exact ⟨by decide, iteP rfl rfl⟩
    · rw [a2.1, if_pos c1]
      refine ⟨by decide, iteN (by decide) (s_isIn hn ry (by decide) (by decide) ?_)⟩
      rw [if_neg c2]
      exact ⟨by decide, iteP rfl (s_thr1 hn ⟨by decide, iteN (by decide) (ot_thr i)⟩)⟩
  have sc := sr.2.2.2.1.2.2.2 x c1.1 (by show x < h 3 3; omega)
  have e24 : h 27 x = cN (rq (h 99) x) (h 3 10).toNat := sc.1
  have nb := cN_bd (rq (h 99) x) (h 3 10).toNat
  have n200 : (h 3 10).toNat ≤ 200 := k.1
  have r27 : rg (h 27 x) := by rw [e24]; constructor <;> omega
  by_cases c3 : 1 < cN (rq (h 99) x) (h 3 10).toNat
  · right
    have v := sc.2.1 (by show 0 < cN (rq (h 99) x) (h 3 10).toNat; omega)
    have bd := rfd_bd k c3
    have ef : h 29 x - h 31 x = rfell (h 99) x (h 3 10).toNat := by
      have q1 : h 29 x = h 99 (877 + 4 * fst1 (rq (h 99) x) 0 (h 3 10).toNat + 2) := v.2.1
      have q2 : h 31 x = h 99 (877 + 4 * lst (rq (h 99) x) (h 3 10).toNat + 2) := v.2.2.2
      rw [q1, q2]; rfl
    have ed : h 30 x - h 28 x = rdays (h 99) x (h 3 10).toNat := by
      have q1 : h 28 x = h 99 (877 + 4 * fst1 (rq (h 99) x) 0 (h 3 10).toNat + 1) := v.1
      have q2 : h 30 x = h 99 (877 + 4 * lst (rq (h 99) x) (h 3 10).toNat + 1) := v.2.2.1
      rw [q1, q2]; rfl
    generalize hA : rfell (h 99) x (h 3 10).toNat = A at *
    generalize hB : rdays (h 99) x (h 3 10).toNat = B at *
    have gp : 0 < Nat.gcd A.natAbs B.natAbs := Nat.gcd_pos_of_pos_right _ (by omega)
    have gle : Nat.gcd A.natAbs B.natAbs ≤ B.natAbs := Nat.gcd_le_right _ (by omega)
    -- the reference
    have mm : ∀ r1 : Int, r1 = (if y = 0 then A else B).tdiv (Nat.gcd A.natAbs B.natAbs : Int) → h 1000003 = h 1000003 ∧ h 1000004 = h 1000004 ∧ rg r1 ∧ RtI l (D + 60) mX12_fall (zz ζ) [aP 97, aI x, aI y] (hu h 143 0 r1) (fun r2 h2 => rg r2 ∧ r1 = r2 ∧ h2 97 0 = 0 ∧ h2 143 0 = r1 ∧ h2 1000003 = h 1000003 ∧ h2 1000004 = h 1000004 ∧ Inv ζ h2) := by
      intro r1 er
      have bt := tdiv_bd (v := if y = 0 then A else B) (g := Nat.gcd A.natAbs B.natAbs) (K := 4200) (by split <;> omega)
      rw [← er] at bt
      have g1 : rg r1 := by constructor <;> omega
      have k99 : (hu h 143 0 r1) 99 = h 99 := hu_c _ _ _ (by decide)
      refine ⟨rfl, rfl, g1, e_X12_fall hn (s_isCell hn rx (by rw [k99]; exact rb1) ?_)⟩
      rw [k99, a2.1, if_pos c1]
      refine ⟨by decide, iteN (by decide) (s_isIn hn ry (by decide) (by decide) ?_)⟩
      rw [if_pos c2]
      refine ⟨by decide, iteN (by decide) (s_falls hn (n := (h 3 10).toNat) (by rw [k99]; exact k) rx (fun _ => ⟨by decide, iteP (by decide) (s_thr0 hn ⟨by decide, iteP rfl ⟨ry, ?_⟩⟩)⟩) (fun no => absurd (by rw [k99]; exact c3) no))⟩
      rw [k99, hA, hB]
      have FH : FL [(97, 0), (97, 28), (97, 29), (143, -1)] h (hu (hu (hu (hu h 143 0 r1) 97 28 A) 97 29 B) 97 0 0) := (((FL.refl.ua rfl).u rfl).u rfl).u rfl
      have e28 : (hu (hu (hu (hu h 143 0 r1) 97 28 A) 97 29 B) 97 0 0) 97 28 = A := by rw [hu_j _ _ _ (by decide), hu_j _ _ _ (by decide), hu_s]
      have e29 : (hu (hu (hu (hu h 143 0 r1) 97 28 A) 97 29 B) 97 0 0) 97 29 = B := by rw [hu_j _ _ _ (by decide), hu_s]
      have e0 : (hu (hu (hu (hu h 143 0 r1) 97 28 A) 97 29 B) 97 0 0) 97 0 = 0 := hu_s _ _ _ _
      have e143 : (hu (hu (hu (hu h 143 0 r1) 97 28 A) 97 29 B) 97 0 0) 143 0 = r1 := by rw [hu_c _ _ _ (by decide), hu_c _ _ _ (by decide), hu_c _ _ _ (by decide), hu_s]
      generalize (hu (hu (hu (hu h 143 0 r1) 97 28 A) 97 29 B) 97 0 0) = H at FH e28 e29 e0 e143 ⊢
      rw [e28, e29]
      refine iteI (fun y0 => s_gcdM hn bd.1 ⟨by omega, by omega⟩ ⟨by constructor <;> omega, by constructor <;> omega, by omega, ot_fin i rfl rfl ?_ g1 FH rfl e0 e143⟩) (fun y0 => s_gcdM hn bd.1 ⟨by omega, by omega⟩ ⟨by constructor <;> omega, by constructor <;> omega, by omega, ot_fin i rfl rfl ?_ g1 FH rfl e0 e143⟩)
      · rw [er, if_neg y0]
      · rw [er, if_pos (Classical.not_not.mp y0)]
    refine e_X11_fall hn (s_hasCell hn rx rb ?_)
    rw [if_pos c1]
    refine ⟨by decide, iteN (by decide) (s_within hn ry (by decide) (by decide) ?_)⟩
    rw [if_pos c2]
    refine ⟨by decide, iteN (by decide) ⟨⟨c1.1, by omega⟩, r27, iteP (by rw [e24]; omega) (e_X5_fallenBy hn ⟨⟨c1.1, by omega⟩, e_X5_daysBetween hn ⟨⟨c1.1, by omega⟩, ?_⟩⟩)⟩⟩
    rw [ef, ed]
    refine ⟨ry, iteI (fun y0 => s_gcdX hn bd.1 ⟨by omega, by omega⟩ (s_cut hn (by constructor <;> omega) (by constructor <;> omega) ?_)) (fun y0 => s_gcdX hn bd.1 ⟨by omega, by omega⟩ (s_cut hn (by constructor <;> omega) (by constructor <;> omega) ?_))⟩
    · rw [if_neg (by omega)]
      exact mm _ (by rw [if_neg y0])
    · rw [if_neg (by omega)]
      exact mm _ (by rw [if_pos (Classical.not_not.mp y0)])
  · left
    refine ⟨x_X11_fall (D := D + 54) hl9 hn (s_hasCell hn rx rb ?_), e_X12_fall hn (s_isCell hn rx rb1 ?_)⟩
    · rw [if_pos c1]
      refine ⟨by decide, iteN (by decide) (s_within hn ry (by decide) (by decide) ?_)⟩
      rw [if_pos c2]
      exact ⟨by decide, iteN (by decide) ⟨⟨c1.1, by omega⟩, r27, iteN (by rw [e24]; omega) rfl⟩⟩
    · rw [a2.1, if_pos c1]
      refine ⟨by decide, iteN (by decide) (s_isIn hn ry (by decide) (by decide) ?_)⟩
      rw [if_pos c2]
      exact ⟨by decide, iteN (by decide) (s_falls hn (n := (h 3 10).toNat) k rx (fun y => absurd y c3) (fun _ => ⟨by decide, iteN (by decide) (s_thr1 hn ⟨by decide, iteN (by decide) (ot_thr i)⟩)⟩))⟩
theorem op_row (hl9 : l.stackTraces = false) (i : Inv ζ h) (rx : rg x) (ry : rg y) (rw' : rg w) : OpT l (D + 60) ζ mX11_row mX12_row [aI x, aI y, aI w] h := by
  have hn := ζok_n i.1.1
  have sr : SR (stk 3 h) (h 99) (h 101) := i.1.2 2
  have a : h 99 14 = h 10 0 ∧ 0 ≤ h 10 0 ∧ h 10 0 ≤ 10 := ⟨sr.2.2.2.2.1.1.2.2, sr.2.2.2.2.1.1.1, sr.2.2.2.2.1.1.2.1⟩
  have rb : rg (h 10 0) := by constructor <;> omega
  have rb1 : rg (h 99 14 - 1) := by constructor <;> omega
  have la := lwA_of sr
  have thr : ∀ (g : HI), g = h → ∀ (Q : Int → HI → Prop), Q 0 (hu h 97 0 1) → G l (D + 60) 0 0 mX12_row (zz ζ) 50 [aP 97, aI x, aI y, aI w] [aI 1, aP 97] g (qI (zz ζ) Q) := fun g eg Q hQ => by
    subst eg
    exact b_X12_row_50 hn (s_thr1 hn ⟨by decide, iteN (by decide) hQ⟩)
  by_cases c1 : 0 ≤ x ∧ x ≤ h 10 0 - 1
  rotate_left
  · left
    refine ⟨x_X11_row (D := D + 54) hl9 hn (s_hasP hn rx rb ?_), e_X12_row hn (s_isPack hn rx rb1 ?_)⟩
    · rw [if_neg c1]
      exact ⟨by decide, iteP rfl rfl⟩
    · rw [a.1, if_neg c1]
      exact ⟨by decide, iteP rfl (thr h rfl _ (ot_thr i))⟩
  have v := pvS_ok sr c1.1 (by show x < h 10 0; omega)
  have p1 := sr.2.2.2.2.1.2.2.1 x c1.1 (by show x < h 10 0; omega)
  have rw1 : h 14 x = h 99 (1677 + 3 * x + 1) ∧ 1 ≤ h 14 x ∧ h 14 x ≤ h 13 x := ⟨p1.2.1.1, p1.2.1.2.1, p1.2.1.2.2.1⟩
  have sz : h 13 x ≤ 40 := p1.1.2.2
  have ev : ((pvS (stk 3 h) x).1 : Int) = h 14 x := v.2.1
  have rr : rg (h 14 x - 1) := by constructor <;> omega
  have m1 : ∀ (g : HI), g 99 = h 99 → ∀ (Q : Int → HI → Prop), RtI l (D + 59) mX12_isIn (zz ζ) [aI y, aI 0, aI (h 14 x - 1)] g (fun r6 h6 => (rg r6) ∧ (if r6 = 0 then (G l (D + 60) 0 0 mX12_row (zz ζ) 50 [aP 97, aI x, aI y, aI w] [aI 1, aP 97] h6 (qI (zz ζ) Q)) else (RtI l (D + 59) mX12_isIn (zz ζ) [aI w, aI 0, aI 2] h6 (fun r7 h7 => (rg r7) ∧ (if ¬ r7 = 0 then (G l (D + 60) 0 0 mX12_row (zz ζ) 50 [aP 97, aI x, aI y, aI w] [aI 0, aP 97] h7 (qI (zz ζ) Q)) else (G l (D + 60) 0 0 mX12_row (zz ζ) 50 [aP 97, aI x, aI y, aI w] [aI 1, aP 97] h7 (qI (zz ζ) Q))))))) → RtI l (D + 60) mX12_row (zz ζ) [aP 97, aI x, aI y, aI w] g Q := by
    intro g e Q k
    refine e_X12_row hn (s_isPack hn rx (by rw [e]; exact rb1) ?_)
    rw [e, a.1, if_pos c1]
    refine ⟨by decide, iteN (by decide) (s_isPack hn rx (by rw [e]; exact rb1) ?_)⟩
    rw [e, a.1, if_pos c1]
    refine ⟨by decide, iteN (by decide) (e_X12_rowsIn hn ⟨⟨by omega, by omega⟩, ?_⟩)⟩
    rw [e, ← rw1.1]
    exact k
  by_cases c2 : 0 ≤ y ∧ y ≤ h 14 x - 1
  rotate_left
  · left
    refine ⟨x_X11_row (D := D + 54) hl9 hn (s_hasP hn rx rb ?_), m1 h rfl _ (s_isIn hn ry (by decide) rr ?_)⟩
    · rw [if_pos c1]
      refine ⟨by decide, iteN (by decide) ⟨⟨c1.1, by omega⟩, s_within hn ry (by decide) rr ?_⟩⟩
      rw [if_neg c2]
      exact ⟨by decide, iteP rfl rfl⟩
    · rw [if_neg c2]
      exact ⟨by decide, iteP rfl (thr h rfl _ (ot_thr i))⟩
  by_cases c3 : 0 ≤ w ∧ w ≤ 2
  rotate_left
  · left
    refine ⟨x_X11_row (D := D + 54) hl9 hn (s_hasP hn rx rb ?_), m1 h rfl _ (s_isIn hn ry (by decide) rr ?_)⟩
    · rw [if_pos c1]
      refine ⟨by decide, iteN (by decide) ⟨⟨c1.1, by omega⟩, s_within hn ry (by decide) rr ?_⟩⟩
      rw [if_pos c2]
      refine ⟨by decide, iteN (by decide) (s_within hn rw' (by decide) (by decide) ?_)⟩
      rw [if_neg c3]
      exact ⟨by decide, iteN (by decide) rfl⟩
    · rw [if_pos c2]
      refine ⟨by decide, iteN (by decide) (s_isIn hn rw' (by decide) (by decide) ?_)⟩
      rw [if_neg c3]
      exact ⟨by decide, iteN (by decide) (thr h rfl _ (ot_thr i))⟩
  right
  obtain ⟨r, er⟩ : ∃ r : Nat, y = r := ⟨y.toNat, by omega⟩
  subst er
  have hr : r < (pvS (stk 3 h) x).1 := by omega
  have hb := pvh_bd v.1 hr
  have fb := pvf_bd v.1 hr
  have cb := cyc_bd (h 99 4) (pvh (pvS (stk 3 h) x) r) (fadeOf (h 99 2) (h 99 3) (pvf (pvS (stk 3 h) x) r))
  refine e_X11_row hn (s_hasP hn rx rb ?_)
  rw [if_pos c1]
  refine ⟨by decide, iteN (by decide) ⟨⟨c1.1, by omega⟩, s_within hn ry (by decide) rr ?_⟩⟩
  rw [if_pos c2]
  refine ⟨by decide, iteN (by decide) (s_within hn rw' (by decide) (by decide) ?_)⟩
  rw [if_pos c3]
  refine ⟨by decide, iteP (by decide) (i_refresh i (fun g f ig z ts tx => ⟨rw', ?_⟩))⟩
  have vx := pvX_of sr c1.1 (by omega) f rfl tx
  have xa : g 7 0 = h 99 2 ∧ 0 ≤ h 99 2 ∧ h 99 2 ≤ 99 := by rw [f.c 7 rfl]; exact la.1
  have xb : g 7 1 = h 99 3 ∧ 0 ≤ h 99 3 ∧ h 99 3 ≤ 99 := by rw [f.c 7 rfl]; exact la.2.1
  have xf : g 7 2 = h 99 4 ∧ 1 ≤ h 99 4 ∧ h 99 4 ≤ 999 := by rw [f.c 7 rfl]; exact la.2.2
  have mm : ∀ r1 : Int, r1 = (if w = 0 then pvh (pvS (stk 3 h) x) r else if w = 1 then pvf (pvS (stk 3 h) x) r else pvc (h 99 2) (h 99 3) (h 99 4) (pvS (stk 3 h) x) r) → g 1000003 = h 1000003 ∧ g 1000004 = h 1000004 ∧ rg r1 ∧ RtI l (D + 60) mX12_row (zz ζ) [aP 97, aI x, aI r, aI w] (hu g 143 0 r1) (fun r2 h2 => rg r2 ∧ r1 = r2 ∧ h2 97 0 = 0 ∧ h2 143 0 = r1 ∧ h2 1000003 = h 1000003 ∧ h2 1000004 = h 1000004 ∧ Inv ζ h2) := by
    intro r1 er
    have g1 : rg r1 := by
      rw [er]
      unfold pvc
      repeat' split
      all_goals (constructor <;> omega)
    have k99 : (hu g 143 0 r1) 99 = h 99 := by rw [hu_c _ _ _ (by decide), f.c 99 rfl]
    refine ⟨f.c _ rfl, f.c _ rfl, g1, m1 _ k99 _ (s_isIn hn ry (by decide) rr ?_)⟩
    rw [if_pos c2]
    refine ⟨by decide, iteN (by decide) (s_isIn hn rw' (by decide) (by decide) ?_)⟩
    rw [if_pos c3]
    refine ⟨by decide, iteP (by decide) (b_X12_row_50 hn (s_thr0 hn ⟨by decide, iteP rfl (i_settle i (by rw [hu_c _ _ _ (by decide), k99]) (fun k fm tsm tm => ⟨rw', ?_⟩))⟩))⟩
    have FG : FL ((97, 0) :: (143, -1) :: LM) g k := ((FL.refl.ua rfl).u rfl).trans (fm.mono rfl)
    have fin : ∀ r2, r1 = r2 → rg r2 ∧ r1 = r2 ∧ k 97 0 = 0 ∧ k 143 0 = r1 ∧ k 1000003 = h 1000003 ∧ k 1000004 = h 1000004 ∧ Inv ζ k := fun r2 e => ot_fin ig (f.c _ rfl) (f.c _ rfl) e g1 FG rfl (by rw [fm.at 97 0 rfl, hu_s]) (by rw [fm.c 143 rfl, hu_c _ _ _ (by decide), hu_s])
    have kk99 : k 99 = h 99 := by rw [fm.c 99 rfl, hu_c _ _ _ (by decide), k99]
    have vm := pvM_of sr c1.1 (by omega) kk99 tm
    have ma : k 99 2 = h 99 2 ∧ 0 ≤ h 99 2 ∧ h 99 2 ≤ 99 := by rw [kk99]; exact ⟨rfl, la.1.2⟩
    have mb : k 99 3 = h 99 3 ∧ 0 ≤ h 99 3 ∧ h 99 3 ≤ 99 := by rw [kk99]; exact ⟨rfl, la.2.1.2⟩
    have mf : k 99 4 = h 99 4 ∧ 1 ≤ h 99 4 ∧ h 99 4 ≤ 999 := by rw [kk99]; exact ⟨rfl, la.2.2.2⟩
    refine iteI (fun y0 => iteI (fun y1 => s_mcyclesOf hn v.1 vm ma mb mf hr (fin _ ?_)) (fun y1 => s_mflowIn hn v.1 vm hr (fin _ ?_))) (fun y0 => s_mholdOf hn v.1 vm hr (fin _ ?_))
    · rw [er, if_neg y0, if_neg y1]
    · rw [er, if_neg y0, if_pos (Classical.not_not.mp y1)]
    · rw [er, if_pos (Classical.not_not.mp y0)]
  refine iteI (fun y2 => iteI (fun y0 => s_xflowOf hn v.1 vx hr (mm _ ?_)) (fun y0 => s_xholdOf hn v.1 vx hr (mm _ ?_))) (fun y2 => s_xcyclesOf hn v.1 vx xa xb xf hr (mm _ ?_))
  · rw [if_neg y0, if_pos (by omega)]
  · rw [if_pos (Classical.not_not.mp y0)]
  · rw [if_neg (by omega), if_neg (by omega)]
end TH6
