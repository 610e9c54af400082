/-! ORDER: the class's search -/
section ODF
variable {l : Launch} {D : Nat} {ζ : ZP} {Q : Int → HI → Prop} {h g : HI} {W : Nat}
def LGo : List (Nat × Int) := [(93, -1), (94, -1), (95, -1), (96, -1)]
theorem s_isDead (hn : 144 ≤ ζ.2.2.2.2) {M : Nat} (hM : M < 4096) (h1 : db (g 96 ((M / 32 : Nat) : Int)) (M % 32) = true → Q 1 g) (h0 : db (g 96 ((M / 32 : Nat) : Int)) (M % 32) = false → Q 0 g) : RtI l (D + 1) mX9_isDead (zz ζ) [aP 91, aI M] g Q := by
  refine e_X9_isDead hn ?_
  rw [(s5 M hM).1, (s5 M hM).2, db_ask _ (Nat.mod_lt _ (by decide))]
  refine ⟨by omega, ?_⟩
  cases c : db (g 96 ((M / 32 : Nat) : Int)) (M % 32) with
  | true => exact ⟨by decide, iteN (by decide) (h1 c)⟩
  | false => exact ⟨by decide, iteP (by decide) (h0 c)⟩
theorem s_spoils (hn : 144 ≤ ζ.2.2.2.2) (hW : isW W) (we : weI W h) (weg : weI W g) (gW : ∀ c, c ≤ 7 → g (W + c) = h (W + c)) {t M : Nat} (ht : t ≤ 12) (hM : M < 4096) (cs : CSt W h t M g) (h1 : (∀ f, ¬ En W h f M) → Q 1 g) (h0 : Q 0 g) : RtI l (D + 3) mX9_spoilsRest (zz ζ) [aP 91, aP W, aI M, aI t] g Q := by
  have g0 : g W = h W := gW 0 (by omega)
  have m12 := we.1.2.1
  have m0 := we.1.1
  have kt := kb_top t (by omega)
  have LP : ∀ (f i : Nat), i + f = (h W 0).toNat → G l (D + 3) 0 0 mX9_spoilsRest (zz ζ) 3 [aP 91, aP W, aI M, aI t, aI i] [] g (qI (zz ζ) Q) := by
    intro f
    induction f with
    | zero =>
      intro i e
      exact b_X9_spoilsRest_3 hn hW ⟨by constructor <;> omega, by rw [g0]; constructor <;> omega, iteP (by rw [g0]; omega) h0⟩
    | succ f ih =>
      intro i e
      have nx := ih (i + 1) (by omega)
      rw [show ((i + 1 : Nat) : Int) = (i : Int) + 1 by omega] at nx
      refine b_X9_spoilsRest_3 hn hW ⟨by constructor <;> omega, by rw [g0]; constructor <;> omega, iteN (by rw [g0]; omega) ?_⟩
      rw [tb32 (by omega) (by omega)]
      cases c : M.testBit i with
      | true => exact ⟨by decide, iteP (by decide) nx⟩
      | false =>
        refine ⟨by decide, iteN (by decide) ?_⟩
        have r := s_shorts (l := l) (D := D) (Q := fun r1 h1 => (rg r1) ∧ (if r1 = 0 then (G l (D + 3) 0 0 mX9_spoilsRest (zz ζ) 3 [aP 91, aP W, aI M, aI t, aI ((i : Int) + 1)] [] h1 (qI (zz ζ) Q)) else (Q 1 h1))) (t := t) (k := i) hn hW (by omega) ⟨kt.1, by omega⟩ cs.1 weg (by rw [g0]; omega)
        rw [gW 1 (by omega), gW 2 (by omega), gW 4 (by omega), gW 5 (by omega), gW 6 (by omega), g0] at r
        exact r (fun z => ⟨by decide, iteN (by decide) (h1 (fun f => spoil we (by omega) cs.2 c z))⟩) (fun z => ⟨by decide, iteP rfl nx⟩)
  exact e_X9_spoilsRest hn hW (LP (h W 0).toNat 0 (by omega))
theorem s_goesOn (hn : 144 ≤ ζ.2.2.2.2) (hW : isW W) (we : weI W h) : ∀ (f t M : Nat) (g : HI) (Q : Int → HI → Prop), t + f = (h W 0).toNat → M < 2 ^ (h W 0).toNat → bts M (h W 0).toNat = t → CSt W h t M g → FL LGo h g → DI W h g → (∀ r g', FL LGo h g' → (∀ j : Int, j < (t : Int) * 60 + 60 → g' 94 j = g 94 j ∧ g' 95 j = g 95 j) → DI W h g' → (∀ j : Int, j < t → g' 93 j = g 93 j) → (r = 1 ∧ En W h f M ∧ LX W h (g' 93) f M t) ∨ (r = 0 ∧ ¬ En W h f M) → Q r g') → RtI l (D + f + 5) mX9_goesOn (zz ζ) [aP 91, aP W, aI M, aI t] g Q := by
  have m12 := we.1.2.1
  have m0 := we.1.1
  intro f
  induction f with
  | zero =>
    intro t M g Q e hM hb cs fl di hq
    have g0 : g W = h W := (weI_fl hW we fl (by decide)).2 0 (by omega)
    refine e_X9_goesOn hn hW ⟨by constructor <;> omega, by rw [g0]; constructor <;> omega, iteN (by rw [g0]; omega) (hq 1 g fl (fun _ _ => ⟨rfl, rfl⟩) di (fun _ _ => rfl) (Or.inl ⟨rfl, ?_, trivial⟩))⟩
    exact (full_iff hM).mpr (by omega)
  | succ f ih =>
    intro t M g Q e hM hb cs fl di hq
    have p12 := pw12 (show (h W 0).toNat ≤ 12 by omega)
    have M4 : M < 4096 := by omega
    have g0 : g W = h W := (weI_fl hW we fl (by decide)).2 0 (by omega)
    refine e_X9_goesOn hn hW ⟨by constructor <;> omega, by rw [g0]; constructor <;> omega, iteP (by rw [g0]; omega) ?_⟩
    have LP : ∀ (n k : Nat) (g1 : HI), k + n = (h W 0).toNat → FL LGo h g1 → (∀ j : Int, j < (t : Int) * 60 + 60 → g1 94 j = g 94 j ∧ g1 95 j = g 95 j) → DI W h g1 → (∀ j : Int, j < t → g1 93 j = g 93 j) → (∀ j : Nat, j < k → ¬ (cnw W h M j ∧ En W h f (M ||| 2 ^ j))) → G l (D + (f + 1) + 5) 0 0 mX9_goesOn (zz ζ) 13 [aP 91, aP W, aI M, aI t, aI k, aU] [] g1 (qI (zz ζ) Q) := by
      intro n
      induction n with
      | zero =>
        intro k g1 ek f1 kp d1 c1 no
        have g10 : g1 W = h W := (weI_fl hW we f1 (by decide)).2 0 (by omega)
        refine b_X9_goesOn_13 hn hW ⟨by constructor <;> omega, by rw [g10]; constructor <;> omega, iteP (by rw [g10]; omega) ?_⟩
        have ne : ¬ En W h (f + 1) M := by
          rintro ⟨j, j1, j2⟩
          exact no j (by omega) j2
        rw [(s5 M M4).1, (s5 M M4).2]
        refine ⟨by omega, hq 0 _ (f1.ua (by decide)) (fun j hj => ?_) (fun N f' hN hd hf => ?_) (fun j hj => ?_) (Or.inr ⟨rfl, ne⟩)⟩
        · rw [hu_c _ _ _ (by decide), hu_c _ _ _ (by decide)]; exact kp j hj
        · rw [hu_eq] at hd
          by_cases z : N / 32 = M / 32
          · rw [if_pos ⟨rfl, by rw [z]⟩, db_or _ (Nat.mod_lt _ (by decide)) (Nat.mod_lt _ (by decide)), Bool.or_eq_true, decide_eq_true_eq] at hd
            rcases hd with y | y
            · rw [← z] at y
              exact d1 N f' hN y hf
            · have eN : N = M := by omega
              subst eN
              have : f' = f + 1 := by omega
              rw [this]; exact ne
          · rw [if_neg (fun q => z (by have := q.2; omega))] at hd
            exact d1 N f' hN hd hf
        · rw [hu_c _ _ _ (by decide)]; exact c1 j hj
      | succ n ihn =>
        intro k g1 ek f1 kp d1 c1 no
        obtain ⟨we1, W1⟩ := weI_fl hW we f1 (by decide)
        have g10 : g1 W = h W := W1 0 (by omega)
        have hk : k < (h W 0).toNat := by omega
        have p2 : 2 ^ k < 4096 := Nat.lt_of_lt_of_le (Nat.pow_lt_pow_right (a := 2) (by omega) (show k < 12 by omega)) (by decide)
        have eM : bor (M : Int) (bshl 1 (k : Int)) = ((M ||| 2 ^ k : Nat) : Int) := by rw [bshl_1 k (by omega), bor_nat (by omega) (by omega)]
        have M2 : M ||| 2 ^ k < 2 ^ (h W 0).toNat := or_lt hM hk
        have M24 : M ||| 2 ^ k < 4096 := by omega
        have cs1 := CSt_keep cs we kp
        have nx : ∀ g2 : HI, FL LGo h g2 → (∀ j : Int, j < (t : Int) * 60 + 60 → g2 94 j = g 94 j ∧ g2 95 j = g 95 j) → DI W h g2 → (∀ j : Int, j < t → g2 93 j = g 93 j) → ¬ (cnw W h M k ∧ En W h f (M ||| 2 ^ k)) → G l (D + (f + 1) + 5) 0 0 mX9_goesOn (zz ζ) 13 [aP 91, aP W, aI M, aI t, aI ((k : Int) + 1), aU] [] g2 (qI (zz ζ) Q) := by
          intro g2 f2 kp2 d2 c2 z
          have := ihn (k + 1) g2 (by omega) f2 kp2 d2 c2 (fun j hj => by
            by_cases y : j = k
            · rw [y]; exact z
            · exact no j (by omega))
          rw [show ((k + 1 : Nat) : Int) = (k : Int) + 1 by omega] at this
          exact this
        refine b_X9_goesOn_13 hn hW ⟨by constructor <;> omega, by rw [g10]; constructor <;> omega, iteN (by rw [g10]; omega) ?_⟩
        rw [eM]
        refine s_isNext (D := D + f + 4) hn hW M4 (by omega) (fun a1 a2 => ⟨by decide, iteN (by decide) ?_⟩) (fun z => ⟨by decide, iteP rfl (nx g1 f1 kp d1 c1 (fun y => z ⟨y.1.1, by rw [W1 3 (by omega)]; exact y.1.2.1⟩))⟩)
        rw [W1 3 (by omega)] at a2
        have hb2 : bts (M ||| 2 ^ k) (h W 0).toNat = ((t + 1 : Nat) : Int) := by rw [bts_add a1 hk, hb]; omega
        refine s_isDead (D := D + f + 4) hn M24 (fun dd => ⟨by decide, iteP (by decide) (nx g1 f1 kp d1 c1 (fun y => d1 _ f M24 dd (by rw [hb2]; omega) y.2))⟩) (fun _ => ⟨by decide, iteN (by decide) ?_⟩)
        refine s_cweld (D := D + f + 2) hn hW we we1 W1 (by omega) hk cs1 (fun g2 f2 kp2 => ⟨fun s => ⟨by decide, iteP rfl ?_⟩, fun s cs2 => ⟨by decide, iteN (by decide) ?_⟩⟩)
        · exact nx g2 (f1.trans (f2.mono (by decide))) (fun j hj => ⟨((kp2 j hj).1).trans (kp j hj).1, ((kp2 j hj).2).trans (kp j hj).2⟩) (by unfold DI; rw [f2.c 96 (by decide)]; exact d1) (by rw [f2.c 93 (by decide)]; exact c1) (fun y => y.1.2.2 s)
        · have F2 : FL LGo h g2 := f1.trans (f2.mono (by decide))
          have K2 : ∀ j : Int, j < (t : Int) * 60 + 60 → g2 94 j = g 94 j ∧ g2 95 j = g 95 j := fun j hj => ⟨((kp2 j hj).1).trans (kp j hj).1, ((kp2 j hj).2).trans (kp j hj).2⟩
          have D2 : DI W h g2 := by unfold DI; rw [f2.c 96 (by decide)]; exact d1
          have C2 : ∀ j : Int, j < t → g2 93 j = g 93 j := by rw [f2.c 93 (by decide)]; exact c1
          obtain ⟨we2, W2⟩ := weI_fl hW we F2 (by decide)
          have cn : cnw W h M k := ⟨a1, a2, s⟩
          rw [show (t : Int) + 1 = ((t + 1 : Nat) : Int) by omega]
          refine s_spoils (D := D + f + 2) hn hW we we2 W2 (by omega) M24 cs2 (fun z => ⟨by decide, iteP (by decide) (nx g2 F2 K2 D2 C2 (fun y => z f y.2))⟩) ⟨by decide, iteN (by decide) ⟨by omega, ?_⟩⟩
          have F3 : FL LGo h (hu g2 93 t k) := F2.ua (by decide)
          refine ih (t + 1) (M ||| 2 ^ k) (hu g2 93 t k) _ (by omega) M2 hb2 (CSt_keep cs2 we (fun j _ => ⟨by rw [hu_c _ _ _ (by decide)], by rw [hu_c _ _ _ (by decide)]⟩)) F3 (by unfold DI; rw [hu_c _ _ _ (by decide)]; exact D2) (fun r g4 f4 kp4 d4 c4 res => ?_)
          have K4 : ∀ j : Int, j < (t : Int) * 60 + 60 → g4 94 j = g 94 j ∧ g4 95 j = g 95 j := by
            intro j hj
            have := kp4 j (by omega)
            rw [hu_c _ _ _ (by decide), hu_c _ _ _ (by decide)] at this
            exact ⟨this.1.trans (K2 j hj).1, this.2.trans (K2 j hj).2⟩
          have C4 : ∀ j : Int, j < t → g4 93 j = g 93 j := by
            intro j hj
            have := c4 j (by omega)
            rw [hu_j _ _ _ (by omega)] at this
            exact this.trans (C2 j hj)
          rcases res with ⟨r1, en, lx⟩ | ⟨r0, ne⟩
          · subst r1
            refine ⟨by decide, iteN (by decide) (hq 1 g4 f4 K4 d4 C4 (Or.inl ⟨rfl, ⟨k, hk, cn, en⟩, k, hk, ?_, ⟨cn, en⟩, no, lx⟩))⟩
            have := c4 t (by omega)
            rw [hu_s] at this
            exact this
          · subst r0
            exact ⟨by decide, iteP rfl (nx g4 f4 K4 d4 C4 (fun y => ne y.2))⟩
    exact LP (h W 0).toNat 0 g (by omega) fl (fun _ _ => ⟨rfl, rfl⟩) di (fun _ _ => rfl) (fun j hj => by omega)
theorem s_findOrder (hn : 144 ≤ ζ.2.2.2.2) (hW : isW W) (we : weI W h) (hq1 : ∀ g, FL [(91, 0), (92, -1), (93, -1), (94, -1), (95, -1), (96, -1)] h g → En W h (h W 0).toNat 0 → LX W h (g 92) (h W 0).toNat 0 0 → g 91 0 = h W 0 → Q 1 g) (hq0 : ∀ g, FL LGo h g → ¬ En W h (h W 0).toNat 0 → Q 0 g) : RtI l (D + 18) mX9_findOrder (zz ζ) [aP 91, aP W] h Q := by
  have m12 := we.1.2.1
  have m0 := we.1.1
  refine e_X9_findOrder hn hW ?_
  have LP := lup (N := 128) (R := fun i g => G l (D + 18) 0 0 mX9_findOrder (zz ζ) 2 [aP 91, aP W, aI i] [] g (qI (zz ζ) Q)) (P := fun i g => FL LGo h g ∧ ∀ j : Int, 0 ≤ j → j < i → g 96 j = 0) ?_ ?_
  · exact LP 0 h (by omega) (by omega) ⟨FL.refl, fun j j0 j1 => by omega⟩
  · rintro i g h0 h1 ⟨f, w⟩ k1
    refine b_X9_findOrder_2 hn hW ⟨by constructor <;> omega, iteN (by omega) ⟨by omega, k1 _ ⟨f.ua (by decide), fun j j0 j1 => ?_⟩⟩⟩
    rw [hu_eq]
    by_cases z : j = i
    · rw [if_pos ⟨rfl, z⟩]
    · rw [if_neg (fun q => z q.2)]; exact w j j0 (by omega)
  · rintro g ⟨f, w⟩
    refine b_X9_findOrder_2 hn hW ⟨by decide, iteP (by decide) (s_begin (D := D + 16) hn (fun g1 f1 cs => ?_))⟩
    have F1 : FL LGo h g1 := f.trans (f1.mono (by decide))
    have d0 : DI W h g1 := by
      intro N f' hN hd
      rw [f1.c 96 (by decide), w ((N / 32 : Nat) : Int) (by omega) (by omega), db_0] at hd
      cases hd
    have b0 : bts 0 (h W 0).toNat = ((0 : Nat) : Int) := by
      have : ∀ N, bts 0 N = 0 := by
        intro N
        induction N with
        | zero => rfl
        | succ N ih =>
          have u : bts 0 (N + 1) = bts 0 N + (if (0 : Nat).testBit N then 1 else 0) := rfl
          rw [u, ih, Nat.zero_testBit]; rfl
      exact this _
    have r := s_goesOn (l := l) (D := D + (12 - (h W 0).toNat)) (ζ := ζ) hn hW we (h W 0).toNat 0 0 g1
    rw [show D + (12 - (h W 0).toNat) + (h W 0).toNat + 5 = D + 17 by omega] at r
    refine r _ (by omega) (Nat.two_pow_pos _) b0 (cs W h we) F1 d0 (fun r g2 f2 _ _ _ res => ?_)
    have W0 : g2 W = h W := (weI_fl hW we f2 (by decide)).2 0 (by omega)
    rcases res with ⟨r1, en, lx⟩ | ⟨r0, ne⟩
    · subst r1
      rw [W0]
      refine ⟨by decide, iteP (by decide) ⟨by omega, hq1 _ (((f2.mono (by decide)).u (by decide)).cp (by decide)) en (LX_congr lx (fun j h1 h2 => ?_)) ?_⟩⟩
      · rw [cp_s (by omega) (by omega), hu_c _ _ _ (by decide)]
      · rw [cp_c (by decide), hu_s]
    · subst r0
      exact ⟨by decide, iteN (by decide) (hq0 g2 f2 ne)⟩
end ODF
