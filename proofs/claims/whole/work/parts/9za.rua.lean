/-! RULE: class and reference alike -/
section RUA
variable {l : Launch} {D : Nat} {ζ : ZP} {h : HI} {Q : Int → HI → Prop}
theorem mr_copy (hn : 144 ≤ ζ.2.2.2.2) {g0 : HI} {k : Nat} (k64 : k ≤ 60) (e1 : g0 97 33 = k) (hq : ∀ g, FL [(99, -1)] g0 g → (∀ j : Int, j < 2627 → g 99 j = g0 99 j) → (∀ j : Int, 0 ≤ j → j < 3 * k → g 99 (2627 + j) = g0 111 j) → Q (g0 97 35) g) : G l (D + 1) 0 0 mX12_rule (zz ζ) 63 [aP 97, aI 0] [] g0 (qI (zz ζ) Q) := by
  have L1 := lup (N := 3 * (k : Int)) (R := fun i g => G l (D + 1) 0 0 mX12_rule (zz ζ) 63 [aP 97, aI i] [] g (qI (zz ζ) Q)) (P := fun i g => FL [(99, -1)] g0 g ∧ (∀ j : Int, j < 2627 → g 99 j = g0 99 j) ∧ ∀ j : Int, 0 ≤ j → j < i → g 99 (2627 + j) = g0 111 j) ?_ ?_
  · exact L1 0 g0 (by omega) (by omega) ⟨FL.refl, fun _ _ => rfl, fun j h0 h1 => by omega⟩
  · rintro i g h0 h1 ⟨f, w1, w2⟩ k1
    have z1 : g 97 33 = k := by rw [f.c 97 (by decide)]; exact e1
    refine b_X12_rule_63 hn ⟨by constructor <;> omega, by rw [z1]; constructor <;> omega, iteN (by rw [z1]; omega) ⟨by omega, by omega, k1 _ ⟨f.ua (by decide), fun j hj => ?_, fun j j0 j1 => ?_⟩⟩⟩
    · rw [hu_j _ _ _ (by omega)]; exact w1 j hj
    · rw [hu_eq]
      by_cases z : j = i
      · rw [if_pos ⟨rfl, by rw [z]⟩, z, f.c 111 (by decide)]
      · rw [if_neg (fun q => z (by have := q.2; omega))]; exact w2 j j0 (by omega)
  · rintro g ⟨f, w1, w2⟩
    have z1 : g 97 33 = k := by rw [f.c 97 (by decide)]; exact e1
    refine b_X12_rule_63 hn ⟨by constructor <;> omega, by rw [z1]; constructor <;> omega, iteP (by rw [z1]; omega) ?_⟩
    rw [f.c 97 (by decide)]
    exact hq g f w1 w2
theorem op_rule (i : Inv ζ h) : Op l (D + 60) ζ mX11_rule mX12_rule [] h := by
  have zk := i.1.1
  have hn := ζok_n zk
  have tp : tpI h := i.1.2 0
  have rs : rsI h := i.1.2 10
  have sr : SR (stk 3 h) (h 99) (h 101) := i.1.2 2
  obtain ⟨n, en⟩ := Int.eq_ofNat_of_zero_le tp.1
  have n540 : n ≤ 540 := by have := tp.2.1; omega
  have hb : ∀ j : Nat, j < 540 → h 2 j = h 2 j ∧ -128 ≤ h 2 j ∧ h 2 j ≤ 127 := fun j hj => ⟨rfl, (tp.2.2.2 j (by omega) (by omega)).2⟩
  have k44 : stk 3 h 1 = h 4 := by funext j; rfl
  have k43 : stk 3 h 3 = h 6 := by funext j; rfl
  have sa := sr.1
  have s2 := sa.2.1
  rw [k44] at s2
  obtain ⟨nx, ex⟩ := Int.eq_ofNat_of_zero_le s2.1
  have n8 : nx ≤ 8 := by have := s2.2.1; omega
  -- the boxes' names
  have nm : ∀ k : Nat, ∃ L : List Int, k < nx → h 6 k = er L ∧ h 101 (6 + k) = ew L ∧ okW L := by
    intro k
    by_cases c : k < nx
    · have := sa.2.2.2.1 k (by omega) (by rw [k44, ex]; omega)
      rw [k43] at this
      obtain ⟨L, h1, h2, h3, h4, h5⟩ := this
      exact ⟨L, fun _ => ⟨h4, h5, h1, h2, h3⟩⟩
    · exact ⟨[], fun z => absurd z c⟩
  obtain ⟨xn, hxn⟩ := Classical.skolem.mp nm
  have di : ∀ k k', k < nx → k' < nx → xn k = xn k' → k = k' := by
    intro k k' hk hk' e
    have := sa.2.2.2.2 k k' (by omega) (by rw [k44, ex]; omega) (by omega) (by rw [k44, ex]; omega) (by rw [k43, (hxn k hk).1, (hxn k' hk').1, e])
    omega
  have bx : BX xn nx h := ⟨ex, fun k hk => ⟨(hxn k hk).1, (hxn k hk).2.2⟩⟩
  have bm : h 99 1 = nx ∧ ∀ k : Nat, k < nx → h 101 (6 + k) = ew (xn k) ∧ okW (xn k) := ⟨by rw [s2.2.2, ex], fun k hk => (hxn k hk).2⟩
  obtain ⟨F, hF⟩ : ∃ F, 4 * (n + 1) + 2 ≤ F := ⟨_, Nat.le_refl _⟩
  have ok := rTop_ok (b := h 2) (xn := xn) n540 n8 hF
  have mh : ∀ (hc : HI) (Q' : Int → HI → Prop), (hc 97 = h 97) → (hc 98 = h 98) → (hc 102 = h 102) → (hc 99 = h 99) → (hc 101 = h 101) → (match rTop (h 2) n xn nx F with
    | .inl e => ∀ g, FL LUa hc g → g 97 2 = 0 → g 97 14 = e.1 → Q' ((-1) - e.2) g
    | .inr s => ∀ g, FL LUa hc g → g 97 2 = 0 → g 97 14 = 0 → RM (h 2) n xn nx [] s g → G l (D + 60) 0 0 mX12_rule (zz ζ) 63 [aP 97, aI 0] [] (hu g 99 16 s.1) (qI (zz ζ) Q')) → RtI l (D + 60) mX12_rule (zz ζ) [aP 97] hc Q' := by
    intro hc Q' a1 a2 a3 a4 a5 hq
    exact mr_read (D := D + 54) hn n540 n8 di hF (by rw [a1, tp.2.2.1, en]) (fun j hj => ⟨by rw [a2]; exact (tp.2.2.2 j (by omega) (by omega)).1, (hb j hj).2⟩) (by unfold rsI; rw [a3]; exact rs) (by rw [a4, a5]; exact bm) hq
  refine e_X11_rule hn (rc_read (D := D + 23) (b := h 2) zk n540 n8 hF en hb bx ?_)
  cases e : rTop (h 2) n xn nx F with
  | inl er' =>
    rw [e] at ok mh
    intro g1 f1 a1 a2
    refine ⟨by decide, iteN (by decide) ?_⟩
    have F1 : FL ((1, 1) :: LQa) h (hu g1 1 1 0) := (f1.mono (by decide)).u (by decide)
    refine ⟨F1.c _ (by decide), F1.c _ (by decide), mh _ _ (F1.c 97 (by decide)) (F1.c 98 (by decide)) (F1.c 102 (by decide)) (F1.c 99 (by decide)) (F1.c 101 (by decide)) (fun g2 f2 z2 a3 => ?_)⟩
    rw [a2]
    have F2 : FL ((1, 1) :: LQa ++ LUa) h g2 := (F1.mono (by decide +kernel)).trans (f2.mono (by decide +kernel))
    have c1 : g2 1 = hu g1 1 1 0 1 := f2.c 1 (by decide)
    refine op_fin1 i rfl (by have := ok.2; constructor <;> omega) F2 [0, 1] (by decide +kernel) ?_
    intro m hm
    have : m = 0 ∨ m = 1 := by simpa using hm
    rcases this with z | z <;> subst z
    · show tpI g2
      refine ⟨?_, ?_, ?_, ?_⟩
      · rw [c1, hu_s]; decide
      · rw [c1, hu_s]; decide
      · rw [c1, hu_s]; exact z2
      · rw [F2.c 98 (by decide +kernel), F2.c 2 (by decide +kernel)]; exact tp.2.2.2
    · show ftI g2
      unfold ftI
      rw [a3, c1, hu_j _ _ _ (by decide), a1]
      exact ⟨rfl, by have := ok.1; omega, ok.1.2⟩
  | inr t =>
    rw [e] at ok mh
    have g : RG n nx rs0 1 t := ok
    intro g1 f1 a1 x1
    refine ⟨by decide, iteP (by decide) (e_X3_copyFrom_r hn ?_)⟩
    have t40 : t.1 ≤ 40 := by have := g.1.2.2.1; have := g.1.2.1; omega
    have F1 : FL ((1, 1) :: LQa) h (hu g1 1 1 0) := (f1.mono (by decide)).u (by decide)
    have u38 : hcp (hu g1 1 1 0) 39 0 9 0 40 38 = g1 38 := by rw [cp_c (by decide), hu_c _ _ _ (by decide)]
    rw [u38, x1.1.1, x1.1.2]
    have F2 : FL [(9, -1), (8, 1), (8, 2)] (hu g1 1 1 0) (hu (hu (hcp (hu g1 1 1 0) 39 0 9 0 40) 8 1 t.1) 8 2 t.2.2.1) := ((FL.refl.cp (by decide)).u (by decide)).u (by decide)
    have v8 : (hu (hu (hcp (hu g1 1 1 0) 39 0 9 0 40) 8 1 t.1) 8 2 t.2.2.1) 8 1 = t.1 ∧ (hu (hu (hcp (hu g1 1 1 0) 39 0 9 0 40) 8 1 t.1) 8 2 t.2.2.1) 8 2 = t.2.2.1 := ⟨by rw [hu_j _ _ _ (by decide), hu_s], hu_s _ _ _ _⟩
    have v9 : ∀ k : Nat, k < t.1 → (hu (hu (hcp (hu g1 1 1 0) 39 0 9 0 40) 8 1 t.1) 8 2 t.2.2.1) 9 k = stv (t.2.1 k) := by
      intro k hk
      rw [hu_c _ _ _ (by decide), hu_c _ _ _ (by decide), cp_s (by omega) (by omega), hu_c _ _ _ (by decide)]
      exact x1.2.1 k hk
    generalize hu (hu (hcp (hu g1 1 1 0) 39 0 9 0 40) 8 1 t.1) 8 2 t.2.2.1 = g2 at F2 v8 v9 ⊢
    have G2 : FL ((1, 1) :: LQa ++ [(9, -1), (8, 1), (8, 2)]) h g2 := (F1.mono (by decide +kernel)).trans (F2.mono (by decide +kernel))
    have r38 : g2 38 2 = t.2.2.1 := by rw [F2.c 38 (by decide), hu_c _ _ _ (by decide)]; exact x1.1.2
    refine ⟨G2.c _ (by decide), G2.c _ (by decide), mh _ _ (G2.c 97 (by decide)) (G2.c 98 (by decide)) (G2.c 102 (by decide)) (G2.c 99 (by decide)) (G2.c 101 (by decide)) (fun g3 f3 z2 a3 x3 => ?_)⟩
    refine mr_copy (D := D + 59) hn (k := t.1) (by omega) (by rw [hu_c _ _ _ (by decide)]; exact x3.1.1.1) (fun g4 f4 w1 w2 => ?_)
    have e35 : hu g3 99 16 t.1 97 35 = t.2.2.1 := by rw [hu_c _ _ _ (by decide)]; exact x3.1.1.2
    rw [e35, r38]
    have H : FL (LUa ++ [(99, -1)]) g2 g4 := ((f3.mono (by decide +kernel)).ua (by decide +kernel)).trans (f4.mono (by decide +kernel))
    have F4 : FL ((1, 1) :: LQa ++ [(9, -1), (8, 1), (8, 2)] ++ LUa ++ [(99, -1)]) h g4 := (G2.mono (by decide +kernel)).trans (H.mono (by decide +kernel))
    have c1 : g4 1 = hu g1 1 1 0 1 := (H.c 1 (by decide +kernel)).trans (F2.c 1 (by decide))
    have r20 : rg (t.2.2.1 : Int) := by have := g.1.2.1; constructor <;> omega
    refine ⟨r20, r20, rfl, F4.c _ (by decide +kernel), F4.c _ (by decide +kernel), i.1.upd F4 [0, 1, 2] (by decide +kernel) ?_, ?_⟩
    · intro m hm
      have : m = 0 ∨ m = 1 ∨ m = 2 := by simpa using hm
      rcases this with z | z | z <;> subst z
      · show tpI g4
        refine ⟨?_, ?_, ?_, ?_⟩
        · rw [c1, hu_s]; decide
        · rw [c1, hu_s]; decide
        · rw [c1, hu_s, f4.c 97 (by decide), hu_c _ _ _ (by decide)]; exact z2
        · rw [F4.c 98 (by decide +kernel), F4.c 2 (by decide +kernel)]; exact tp.2.2.2
      · show ftI g4
        unfold ftI
        rw [f4.c 97 (by decide), hu_c _ _ _ (by decide), a3, c1, hu_j _ _ _ (by decide), a1]
        decide
      · show SR (stk 3 g4) (g4 99) (g4 101)
        have cs : ∀ c : Nat, c < 30 → g4 (3 + c) = g2 (3 + c) := by
          intro c hc
          have : ∀ k : Nat, k < 30 → inC (LUa ++ [(99, -1)]) (3 + k) = false := by decide +kernel
          exact H.c (3 + c) (this c hc)
        refine SR_rule sr n8 g (fun c c5 c6 => ?_) ?_ ?_ (fun k hk => ?_) (fun j j0 j1 => ?_) ?_ (fun k hk => ?_) (F4.c 101 (by decide +kernel))
        · funext j
          unfold stk
          by_cases q : c < 30
          · rw [if_pos q, if_pos q, cs c q]
            have : ∀ k : Nat, k < 30 → k ≠ 5 → k ≠ 6 → inC ((1, 1) :: LQa ++ [(9, -1), (8, 1), (8, 2)]) (3 + k) = false := by decide +kernel
            rw [G2.c (3 + c) (this c q c5 c6)]
          · rw [if_neg q, if_neg q]
        · show g4 (3 + 5) 1 = t.1
          rw [cs 5 (by decide)]; exact v8.1
        · show g4 (3 + 5) 2 = t.2.2.1
          rw [cs 5 (by decide)]; exact v8.2
        · show g4 (3 + 6) k = _
          rw [cs 6 (by decide)]; exact v9 k hk
        · rw [w1 j (by omega), hu_j _ _ _ j1, f3.c 99 (by decide), G2.c 99 (by decide)]
        · rw [w1 16 (by decide), hu_s]
        · have x4 := x3.1.2 k hk
          have q0 := w2 (3 * (k : Int)) (by omega) (by omega)
          have q1 := w2 (3 * (k : Int) + 1) (by omega) (by omega)
          have q2 := w2 (3 * (k : Int) + 2) (by omega) (by omega)
          rw [hu_c _ _ _ (by decide)] at q0 q1 q2
          rw [show (2627 : Int) + 3 * (k : Int) + 1 = 2627 + (3 * (k : Int) + 1) by omega, show (2627 : Int) + 3 * (k : Int) + 2 = 2627 + (3 * (k : Int) + 2) by omega, q0, q1, q2]
          exact x4
    · have etd : td (stk 3 g4) = td (stk 3 h) := by
        have q : ∀ c : Nat, (c = 0 ∨ c = 1 ∨ c = 20 ∨ c = 21 ∨ c = 22 ∨ c = 23) → stk 3 g4 c = stk 3 h c := by
          intro c hc
          funext j
          unfold stk
          rw [if_pos (by omega), if_pos (by omega)]
          have : ∀ k : Nat, k < 30 → k ≠ 5 → k ≠ 6 → inC ((1, 1) :: LQa ++ [(9, -1), (8, 1), (8, 2)] ++ LUa ++ [(99, -1)]) (3 + k) = false := by decide +kernel
          rw [F4.c (3 + c) (this c (by omega) (by omega) (by omega))]
        unfold td
        rw [q 0 (by decide), q 1 (by decide), q 20 (by decide), q 21 (by decide), q 22 (by decide), q 23 (by decide)]
      have tr := i.2
      unfold trI TSX TWX at tr ⊢
      rw [etd, F4.c 40 (by decide +kernel), F4.c 41 (by decide +kernel), F4.c 42 (by decide +kernel), F4.c 43 (by decide +kernel), F4.c 44 (by decide +kernel), F4.c 45 (by decide +kernel), F4.c 46 (by decide +kernel), F4.c 47 (by decide +kernel), F4.c 48 (by decide +kernel)]
      exact tr
end RUA
