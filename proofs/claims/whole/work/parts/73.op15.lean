/-! held -/
def mq (s : Int → Int) (p i : Int) (m : Nat) : Prop := s (2507 + 4 * (m : Int)) = p ∧ s (2507 + 4 * (m : Int) + 1) = i
/-- a place's cell at the end of a day, the reference's way -/
def thF (s : Int → Int) (p i d : Int) : Nat → Int
  | 0 => s (1707 + 40 * p + i)
  | m + 1 => if s (2507 + 4 * (m : Int)) = p ∧ s (2507 + 4 * (m : Int) + 1) = i ∧ s (2507 + 4 * (m : Int) + 3) ≤ d then s (2507 + 4 * (m : Int) + 2) else thF s p i d m
theorem thF_hi {s : Int → Int} {p i d : Int} : ∀ {n : Nat}, (∀ m : Nat, m < n → mq s p i m → s (2507 + 4 * (m : Int) + 3) ≤ d) → thF s p i d n = hiC s p i n
  | 0, _ => rfl
  | n + 1, h => by
    have ih := thF_hi (n := n) (fun m hm => h m (by omega))
    unfold thF hiC
    by_cases c : s (2507 + 4 * (n : Int)) = p ∧ s (2507 + 4 * (n : Int) + 1) = i
    · rw [if_pos c, if_pos ⟨c.1, c.2, h n (by omega) c⟩]
    · rw [if_neg c, if_neg (fun q => c ⟨q.1, q.2.1⟩), ih]
theorem thF_stay {s : Int → Int} {p i d : Int} {k : Nat} : ∀ {n : Nat}, k ≤ n → (∀ m : Nat, k ≤ m → m < n → mq s p i m → ¬ s (2507 + 4 * (m : Int) + 3) ≤ d) → thF s p i d n = thF s p i d k
  | 0, h, _ => by rw [show k = 0 by omega]
  | n + 1, h, hq => by
    by_cases e : k = n + 1
    · rw [e]
    · have ih := thF_stay (n := n) (by omega) (fun m a b => hq m a (by omega))
      show (if s (2507 + 4 * (n : Int)) = p ∧ s (2507 + 4 * (n : Int) + 1) = i ∧ s (2507 + 4 * (n : Int) + 3) ≤ d then s (2507 + 4 * (n : Int) + 2) else thF s p i d n) = _
      rw [if_neg (fun q => hq n (by omega) (by omega) ⟨q.1, q.2.1⟩ q.2.2), ih]
theorem hiC_from {s : Int → Int} {p i : Int} : ∀ {n : Nat}, hiC s p i n = s (1707 + 40 * p + i) ∨ ∃ m : Nat, m < n ∧ mq s p i m ∧ hiC s p i n = s (2507 + 4 * (m : Int) + 2)
  | 0 => Or.inl rfl
  | n + 1 => by
    unfold hiC
    by_cases c : s (2507 + 4 * (n : Int)) = p ∧ s (2507 + 4 * (n : Int) + 1) = i
    · rw [if_pos c]; exact Or.inr ⟨n, by omega, c, rfl⟩
    · rw [if_neg c]
      rcases hiC_from (s := s) (p := p) (i := i) (n := n) with e | ⟨m, h1, h2, h3⟩
      · exact Or.inl e
      · exact Or.inr ⟨m, by omega, h2, h3⟩
theorem hiC_to_out {s : Int → Int} {p i : Int} {k : Nat} : ∀ {n : Nat}, k ≤ n → hiC s p i k = hiC s p i n ∨ ∃ m : Nat, k ≤ m ∧ m < n ∧ mq s p i m ∧ hiC s p i k = hiC s p i m
  | 0, h => by rw [show k = 0 by omega]; exact Or.inl rfl
  | n + 1, h => by
    by_cases e : k = n + 1
    · rw [e]; exact Or.inl rfl
    · rcases hiC_to_out (s := s) (p := p) (i := i) (k := k) (n := n) (by omega) with q | ⟨m, h1, h2, h3, h4⟩
      · by_cases c : s (2507 + 4 * (n : Int)) = p ∧ s (2507 + 4 * (n : Int) + 1) = i
        · exact Or.inr ⟨n, by omega, by omega, c, q⟩
        · left
          rw [q]
          show _ = (if s (2507 + 4 * (n : Int)) = p ∧ s (2507 + 4 * (n : Int) + 1) = i then _ else hiC s p i n)
          rw [if_neg c]
      · exact Or.inr ⟨m, h1, by omega, h3, h4⟩
/-- packs as bits -/
def bsN (hd : Nat → Bool) : Nat → Nat
  | 0 => 0
  | k + 1 => if hd k then bsN hd k ||| 2 ^ k else bsN hd k
theorem bsN_lt {hd : Nat → Bool} : ∀ {k : Nat}, bsN hd k < 2 ^ k
  | 0 => by simp [bsN]
  | k + 1 => by
    have ih := bsN_lt (hd := hd) (k := k)
    have h2 : (2 : Nat) ^ k < 2 ^ (k + 1) := Nat.pow_lt_pow_right (by decide) (by omega)
    unfold bsN
    split
    · exact Nat.or_lt_two_pow (Nat.lt_trans ih h2) h2
    · exact Nat.lt_trans ih h2
theorem bor_0 {a : Nat} (h : a < 2147483648) : bor a 0 = a := by
  have := bor_nat (a := a) (b := 0) h (by decide)
  rw [Nat.or_zero] at this
  exact this
/-- what stands in the stock's packs and mends, for held -/
def hdK (h : HI) (M : Nat) (P : Nat) : Prop := M ≤ 30 ∧ P ≤ 10 ∧ h 10 7 = M ∧ h 99 15 = M ∧ h 10 0 = P ∧ h 99 14 = P ∧ (∀ p : Int, 0 ≤ p → p < P → (h 13 p = h 99 (1677 + 3 * p + 2) ∧ 0 ≤ h 13 p ∧ h 13 p ≤ 40) ∧ (h 15 p = h 99 (1677 + 3 * p) ∧ 0 ≤ h 15 p ∧ h 15 p ≤ 999) ∧ ∀ i : Int, 0 ≤ i → i < h 13 p → h 12 (p * 40 + i) = hiC (h 99) p i M ∧ ∀ m : Nat, m ≤ M → 0 ≤ hiC (h 99) p i m ∧ hiC (h 99) p i m < 60) ∧ (∀ m : Nat, m < M → h 17 m = h 99 (2507 + 4 * (m : Int)) ∧ h 18 m = h 99 (2507 + 4 * (m : Int) + 1) ∧ h 20 m = h 99 (2507 + 4 * (m : Int) + 3) ∧ h 19 m = hiC (h 99) (h 99 (2507 + 4 * (m : Int))) (h 99 (2507 + 4 * (m : Int) + 1)) m ∧ (0 ≤ h 17 m ∧ h 17 m < P) ∧ (0 ≤ h 18 m ∧ h 18 m < h 13 (h 17 m)) ∧ (0 ≤ h 20 m ∧ h 20 m ≤ 999) ∧ (0 ≤ h 99 (2507 + 4 * (m : Int) + 2) ∧ h 99 (2507 + 4 * (m : Int) + 2) < h 3 3)) ∧ (∀ m m' : Nat, m < m' → m' < M → h 17 m = h 17 m' → h 20 m ≤ h 20 m') ∧ (∀ c : Int, 0 ≤ c → c < h 3 3 → h 99 (17 + c) = h 22 c ∧ rg (h 22 c)) ∧ (h 3 3 ≤ 60) ∧ (∀ p i : Int, 0 ≤ p → p < P → 0 ≤ i → i < h 13 p → ∀ m : Nat, m ≤ M → hiC (h 99) p i m < h 3 3)
theorem hdK_of {h : HI} (sr : SR (stk 3 h) (h 99) (h 101)) : hdK h (h 10 7).toNat (h 10 0).toNat := by
  obtain ⟨sa, sc, sr', ss, sp, su⟩ := sr
  obtain ⟨pa, pb, pc, pd, pe, pf⟩ := sp
  have a0 : 0 ≤ h 10 0 ∧ h 10 0 ≤ 10 ∧ h 99 14 = h 10 0 := pa
  have b0 : 0 ≤ h 10 7 ∧ h 10 7 ≤ 30 ∧ h 99 15 = h 10 7 := pb
  have c60 : h 3 3 ≤ 60 := sc.1.2.1
  have bx : h 4 4 ≤ 8 := sa.2.1.2.1
  have mr : ∀ m : Nat, m < (h 10 7).toNat → SRm1 (stk 3 h) (h 99) m := fun m hm => pe m (by show (m : Int) < h 10 7; omega)
  have hir : ∀ p i : Int, 0 ≤ p → p < h 10 0 → 0 ≤ i → i < h 13 p → ∀ m : Nat, m ≤ (h 10 7).toNat → 0 ≤ hiC (h 99) p i m ∧ hiC (h 99) p i m < h 3 3 := by
    intro p i p0 p1 i0 i1 m hm
    have f := ((pc p p0 p1).2.2.2.2.1 i i0 i1).2.2.2.2.1
    rcases hiC_from (s := h 99) (p := p) (i := i) (n := m) with e | ⟨k, h1, h2, h3⟩
    · rw [e]; exact f
    · rw [h3]; exact (mr k (by omega)).2.2.1
  refine ⟨by omega, by omega, by omega, by omega, by omega, by omega, fun p p0 p1 => ?_, fun m hm => ?_, fun m m' a b e => pf m m' a (by show (m' : Int) < h 10 7; omega) e, fun c c0 c1 => ?_, c60, fun p i p0 p1 i0 i1 m hm => (hir p i p0 (by omega) i0 i1 m hm).2⟩
  · obtain ⟨q1, q2, q3, q4, q5, q6⟩ := pc p p0 (by show p < h 10 0; omega)
    have q1' : h 13 p = h 99 (1677 + 3 * p + 2) ∧ 1 ≤ h 13 p ∧ h 13 p ≤ 40 := q1
    refine ⟨⟨q1'.1, by omega, q1'.2.2⟩, q3, fun i i0 i1 => ⟨(q5 i i0 i1).2.1, fun m hm => ?_⟩⟩
    have := hir p i p0 (by omega) i0 i1 m hm
    omega
  · obtain ⟨m1, m2, m3, m4, m5⟩ := mr m hm
    have m1' : h 17 m = h 99 (2507 + 4 * (m : Int)) ∧ 0 ≤ h 17 m ∧ h 17 m < h 10 0 := m1
    have m2' : h 18 m = h 99 (2507 + 4 * (m : Int) + 1) ∧ 0 ≤ h 18 m ∧ h 18 m < h 13 (h 17 m) := m2
    have m4' : h 20 m = h 99 (2507 + 4 * (m : Int) + 3) ∧ h 15 (h 17 m) ≤ h 20 m ∧ h 20 m ≤ 999 := m4
    have m5' : h 19 m = hiC (h 99) (h 17 m) (h 18 m) m := m5
    have q3 : h 15 (h 17 m) = _ ∧ 0 ≤ h 15 (h 17 m) ∧ _ := (pc (h 17 m) m1'.2.1 m1'.2.2).2.2.1
    rw [m1'.1, m2'.1] at m5'
    refine ⟨m1'.1, m2'.1, m4'.1, m5', ⟨m1'.2.1, by omega⟩, m2'.2, ⟨by omega, m4'.2.2⟩, m3⟩
  · have w := sc.2 c c0 c1
    have w1 : h 99 (17 + c) = h 22 c ∧ 0 ≤ h 22 c ∧ h 22 c < h 4 4 := w
    exact ⟨w1.1, by constructor <;> omega⟩
def HadD (h : HI) (M : Nat) (p box d : Int) : Prop := h 15 p ≤ d ∧ ∃ i : Int, 0 ≤ i ∧ i < h 13 p ∧ h 22 (thF (h 99) p i d M) = box
def HadE (h : HI) (M : Nat) (p box : Int) : Prop := (∃ i : Int, 0 ≤ i ∧ i < h 13 p ∧ h 22 (h 99 (1707 + 40 * p + i)) = box) ∨ ∃ m : Nat, m < M ∧ h 99 (2507 + 4 * (m : Int)) = p ∧ h 22 (h 99 (2507 + 4 * (m : Int) + 2)) = box
section OP15
variable {l : Launch} {D : Nat} {ζ : ZP} {h : HI} {Q : Int → HI → Prop} {QV : HI → Prop} {p box d : Int} {M P : Nat}
theorem s_cellOn (hn : 144 ≤ ζ.2.2.2.2) (K : hdK h M P) (hp : 0 ≤ p ∧ p < P) {i : Int} (hi : 0 ≤ i ∧ i < h 13 p) (rd : rg d) (hq : Q (thF (h 99) p i d M) h) : RtI l (D + 2) mX1_cellOn (zz ζ) [aP 10, aI p, aI i, aI d] h Q := by
  obtain ⟨k1, k2, k3, k4, k5, k6, k7, k8, k9, k10, k11, k12⟩ := K
  obtain ⟨q1, q2, q3⟩ := k7 p hp.1 hp.2
  have q4 := q3 i hi.1 hi.2
  refine e_X1_cellOn hn ?_
  have main : ∀ (m k : Nat), k + m = M → (∀ j : Nat, j < k → mq (h 99) p i j → h 99 (2507 + 4 * (j : Int) + 3) ≤ d) → G l (D + 2) 0 0 mX1_cellOn (zz ζ) 3 [aP 10, aI p, aI i, aI d, aI k] [] h (qI (zz ζ) Q) := by
    intro m
    induction m with
    | zero =>
      intro k hk hb
      have : k = M := by omega
      subst this
      refine b_X1_cellOn_3 hn ⟨by constructor <;> omega, by rw [k3]; constructor <;> omega, iteP (by rw [k3]; omega) (s_cellAt hn ⟨by omega, by omega⟩ ?_)⟩
      rw [q4.1, ← thF_hi hb]; exact hq
    | succ m ih =>
      intro k hk hb
      obtain ⟨m1, m2, m3, m4, m5, m6, m7, m8⟩ := k8 k (by omega)
      have skip : (mq (h 99) p i k → h 99 (2507 + 4 * (k : Int) + 3) ≤ d) → G l (D + 2) 0 0 mX1_cellOn (zz ζ) 3 [aP 10, aI p, aI i, aI d, aI ((k : Int) + 1)] [] h (qI (zz ζ) Q) := by
        intro hs
        have kk := ih (k + 1) (by omega) (fun j hj e => by
          by_cases z : j = k
          · rw [z] at e ⊢; exact hs e
          · exact hb j (by omega) e)
        rw [show ((k + 1 : Nat) : Int) = (k : Int) + 1 by omega] at kk
        exact kk
      have z1 := (k7 (h 17 k) m5.1 m5.2).1
      refine b_X1_cellOn_3 hn ⟨by constructor <;> omega, by rw [k3]; constructor <;> omega, iteN (by rw [k3]; omega) ⟨⟨by omega, by omega⟩, by constructor <;> omega, by constructor <;> omega, iteI (fun y => skip (fun e => absurd (by rw [m1]; exact e.1) y)) (fun y => ⟨by constructor <;> omega, by constructor <;> omega, iteI (fun y2 => skip (fun e => absurd (by rw [m2]; exact e.2) y2)) (fun y2 => ⟨by constructor <;> omega, rd, iteI (fun y3 => skip (fun _ => by rw [← m3]; exact y3)) (fun y3 => ?_)⟩)⟩)⟩⟩
      have y' : h 17 k = p := Classical.not_not.mp y
      have y2' : h 18 k = i := Classical.not_not.mp y2
      have e19 : h 19 k = thF (h 99) p i d M := by
        rw [thF_stay (k := k) (by omega) (fun j j0 j1 e => ?_), thF_hi hb, m4, ← m1, ← m2, y', y2']
        have wj := k8 j j1
        by_cases z : j = k
        · rw [z, ← m3]; omega
        · have := k9 k j (by omega) j1 (by rw [y', wj.1]; exact e.1.symm)
          rw [wj.2.2.1] at this
          omega
      rw [e19]; exact hq
  exact main M 0 (by omega) (fun j hj => absurd hj (by omega))
theorem thF_rg (K : hdK h M P) (hp : 0 ≤ p ∧ p < P) {i : Int} (hi : 0 ≤ i ∧ i < h 13 p) : ∀ n : Nat, n ≤ M → 0 ≤ thF (h 99) p i d n ∧ thF (h 99) p i d n < h 3 3 := by
  intro n
  have h0 := (K.2.2.2.2.2.2.1 p hp.1 hp.2).2.2 i hi.1 hi.2
  have h1 := K.2.2.2.2.2.2.2.2.2.2.2 p i hp.1 hp.2 hi.1 hi.2 0 (by omega)
  have h2 := (h0.2 0 (by omega)).1
  induction n with
  | zero => intro _; exact ⟨h2, h1⟩
  | succ n ih =>
    intro hn
    unfold thF
    split
    · exact (K.2.2.2.2.2.2.2.1 n (by omega)).2.2.2.2.2.2.2
    · exact ih (by omega)
theorem s_hadOn (hn : 144 ≤ ζ.2.2.2.2) (K : hdK h M P) (hp : 0 ≤ p ∧ p < P) (rd : rg d) (rb : rg box) (hy : HadD h M p box d → Q 1 h) (hz : ¬ HadD h M p box d → Q 0 h) : RtI l (D + 3) mX1_hadOn (zz ζ) [aP 10, aI p, aI box, aI d, aP 22] h Q := by
  obtain ⟨q1, q2, q3⟩ := K.2.2.2.2.2.2.1 p hp.1 hp.2
  have p10 := K.2.1
  refine e_X1_hadOn hn ⟨⟨hp.1, by omega⟩, by constructor <;> omega, rd, iteI (fun y => ?_) (fun y => hz (fun q => y q.1))⟩
  obtain ⟨N, hN⟩ : ∃ N : Nat, h 13 p = N := ⟨(h 13 p).toNat, by omega⟩
  have main : ∀ (m k : Nat), k + m = N → (∀ i : Int, 0 ≤ i → i < k → h 22 (thF (h 99) p i d M) ≠ box) → G l (D + 3) 0 0 mX1_hadOn (zz ζ) 15 [aP 10, aI p, aI box, aI d, aP 22, aI k] [] h (qI (zz ζ) Q) := by
    intro m
    induction m with
    | zero =>
      intro k hk hb
      refine b_X1_hadOn_15 hn ⟨⟨hp.1, by omega⟩, by constructor <;> omega, by rw [hN]; constructor <;> omega, iteP (by rw [hN]; omega) (hz ?_)⟩
      intro ⟨_, i, i0, i1, i2⟩
      exact hb i i0 (by omega) i2
    | succ m ih =>
      intro k hk hb
      have hi : 0 ≤ (k : Int) ∧ (k : Int) < h 13 p := by omega
      have tr := thF_rg (d := d) K hp hi M (Nat.le_refl _)
      have c60 := K.2.2.2.2.2.2.2.2.2.2.1
      have bo := K.2.2.2.2.2.2.2.2.2.1 _ tr.1 tr.2
      refine b_X1_hadOn_15 hn ⟨⟨hp.1, by omega⟩, by constructor <;> omega, by rw [hN]; constructor <;> omega, iteN (by rw [hN]; omega) (s_cellOn hn K hp hi rd ⟨⟨tr.1, by omega⟩, bo.2, rb, iteI (fun z => ?_) (fun z => hy ⟨y, k, hi.1, hi.2, Classical.not_not.mp z⟩)⟩)⟩
      have kk := ih (k + 1) (by omega) (fun i i0 i1 => by
        by_cases e : i = k
        · rw [e]; exact z
        · exact hb i i0 (by omega))
      rw [show ((k + 1 : Nat) : Int) = (k : Int) + 1 by omega] at kk
      exact kk
  exact main N 0 (by omega) (fun i i0 i1 => by omega)
theorem s_everHad (hn : 144 ≤ ζ.2.2.2.2) (K : hdK h M P) (hp : 0 ≤ p ∧ p < P) (rb : rg box) (hy : HadE h M p box → Q 1 h) (hz : ¬ HadE h M p box → Q 0 h) : RtI l (D + 4) mX1_everHad (zz ζ) [aP 10, aI p, aI box, aP 22] h Q := by
  have KK := K
  obtain ⟨k1, k2, k3, k4, k5, k6, k7, k8, k9, k10, k11, k12⟩ := K
  obtain ⟨q1, q2, q3⟩ := k7 p hp.1 hp.2
  -- the two ways to say it
  have eqv : ((∃ m : Nat, m < M ∧ h 17 m = p ∧ h 22 (h 19 m) = box) ∨ HadD h M p box 999) ↔ HadE h M p box := by
    have now : ∀ i : Int, thF (h 99) p i 999 M = hiC (h 99) p i M := fun i => thF_hi (fun m hm e => by rw [← (k8 m hm).2.2.1]; exact (k8 m hm).2.2.2.2.2.2.1.2)
    constructor
    · intro q
      rcases q with ⟨m, hm, e1, e2⟩ | ⟨_, i, i0, i1, e⟩
      · obtain ⟨m1, m2, m3, m4, m5, m6, m7, m8⟩ := k8 m hm
        rw [m4] at e2
        rcases hiC_from (s := h 99) (p := h 99 (2507 + 4 * (m : Int))) (i := h 99 (2507 + 4 * (m : Int) + 1)) (n := m) with z | ⟨j, j1, j2, j3⟩
        · left
          rw [z, ← m1, ← m2, e1] at e2
          rw [e1] at m6
          exact ⟨h 18 m, m6.1, m6.2, e2⟩
        · right
          rw [j3] at e2
          exact ⟨j, by omega, by rw [j2.1, ← m1]; exact e1, e2⟩
      · rw [now i] at e
        rcases hiC_from (s := h 99) (p := p) (i := i) (n := M) with z | ⟨j, j1, j2, j3⟩
        · rw [z] at e; exact Or.inl ⟨i, i0, i1, e⟩
        · rw [j3] at e; exact Or.inr ⟨j, j1, j2.1, e⟩
    · intro q
      rcases q with ⟨i, i0, i1, e⟩ | ⟨m, hm, e1, e2⟩
      · rcases hiC_to_out (s := h 99) (p := p) (i := i) (k := 0) (n := M) (by omega) with z | ⟨j, _, j1, j2, j3⟩
        · right
          refine ⟨by omega, i, i0, i1, ?_⟩
          rw [now i, ← z]; exact e
        · left
          obtain ⟨m1, m2, m3, m4, m5, m6, m7, m8⟩ := k8 j j1
          refine ⟨j, j1, by rw [m1]; exact j2.1, ?_⟩
          rw [m4, j2.1, j2.2, ← j3]; exact e
      · obtain ⟨m1, m2, m3, m4, m5, m6, m7, m8⟩ := k8 m hm
        have hin : hiC (h 99) p (h 99 (2507 + 4 * (m : Int) + 1)) (m + 1) = h 99 (2507 + 4 * (m : Int) + 2) := if_pos ⟨e1, rfl⟩
        have ep : h 17 m = p := by rw [m1]; exact e1
        rw [ep] at m6
        rcases hiC_to_out (s := h 99) (p := p) (i := h 99 (2507 + 4 * (m : Int) + 1)) (k := m + 1) (n := M) (by omega) with z | ⟨j, _, j1, j2, j3⟩
        · right
          refine ⟨by omega, h 18 m, m6.1, m6.2, ?_⟩
          rw [now, m2, ← z, hin]; exact e2
        · left
          obtain ⟨n1, n2, n3, n4, n5, n6, n7, n8⟩ := k8 j j1
          refine ⟨j, j1, by rw [n1]; exact j2.1, ?_⟩
          rw [n4, j2.1, j2.2, ← j3, hin]; exact e2
  refine e_X1_everHad hn ?_
  have main : ∀ (m k : Nat), k + m = M → (∀ j : Nat, j < k → ¬ (h 17 j = p ∧ h 22 (h 19 j) = box)) → G l (D + 4) 0 0 mX1_everHad (zz ζ) 3 [aP 10, aI p, aI box, aP 22, aI k] [] h (qI (zz ζ) Q) := by
    intro m
    induction m with
    | zero =>
      intro k hk hb
      refine b_X1_everHad_3 hn ⟨by constructor <;> omega, by rw [k3]; constructor <;> omega, iteP (by rw [k3]; omega) (s_hadOn hn KK hp (by decide) rb (fun q => ⟨Or.inr rfl, hy (eqv.mp (Or.inr q))⟩) (fun q => ⟨Or.inl rfl, hz (fun w => ?_)⟩))⟩
      rcases eqv.mpr w with ⟨j, j1, j2, j3⟩ | w
      · exact hb j (by omega) ⟨j2, j3⟩
      · exact q w
    | succ m ih =>
      intro k hk hb
      obtain ⟨m1, m2, m3, m4, m5, m6, m7, m8⟩ := k8 k (by omega)
      have skip : ¬ (h 17 k = p ∧ h 22 (h 19 k) = box) → G l (D + 4) 0 0 mX1_everHad (zz ζ) 3 [aP 10, aI p, aI box, aP 22, aI ((k : Int) + 1)] [] h (qI (zz ζ) Q) := by
        intro hs
        have kk := ih (k + 1) (by omega) (fun j hj => by
          by_cases z : j = k
          · rw [z]; exact hs
          · exact hb j (by omega))
        rw [show ((k + 1 : Nat) : Int) = (k : Int) + 1 by omega] at kk
        exact kk
      have r19 : 0 ≤ h 19 k ∧ h 19 k < h 3 3 := by
        rw [m4]
        refine ⟨(((k7 _ (by rw [← m1]; exact m5.1) (by rw [← m1]; exact m5.2)).2.2 _ (by rw [← m2]; exact m6.1) (by rw [← m1, ← m2]; exact m6.2)).2 k (by omega)).1, k12 _ _ (by rw [← m1]; exact m5.1) (by rw [← m1]; exact m5.2) (by rw [← m2]; exact m6.1) (by rw [← m1, ← m2]; exact m6.2) k (by omega)⟩
      have bo := k10 _ r19.1 r19.2
      refine b_X1_everHad_3 hn ⟨by constructor <;> omega, by rw [k3]; constructor <;> omega, iteN (by rw [k3]; omega) ⟨⟨by omega, by omega⟩, by constructor <;> omega, by constructor <;> omega, iteI (fun y => skip (fun e => y e.1)) (fun y => ⟨⟨r19.1, by omega⟩, bo.2, rb, iteI (fun y2 => skip (fun e => y2 e.2)) (fun y2 => hy (eqv.mp (Or.inl ⟨k, by omega, Classical.not_not.mp y, Classical.not_not.mp y2⟩)))⟩)⟩⟩
  exact main M 0 (by omega) (fun j hj => absurd hj (by omega))
end OP15
