/-! swaps: the class's deal and loop -/
theorem dl_tdiv {k s : Nat} (h : 1 ≤ s) : (k : Int).tdiv s = ((k / s : Nat) : Int) ∧ (k : Int).tmod s = ((k % s : Nat) : Int) := by
  rw [Int.tdiv_eq_ediv_of_nonneg (by omega), Int.tmod_eq_emod_of_nonneg (by omega)]
  exact ⟨(Int.natCast_ediv k s).symm, (Int.natCast_emod k s).symm⟩
theorem dl_even {q : Nat} : ((q : Nat) : Int).tmod 2 = ((q % 2 : Nat) : Int) := by
  rw [Int.tmod_eq_emod_of_nonneg (by omega)]
  exact (Int.natCast_emod q 2).symm
/-- dealt k: rows of those dealt, sums -/
def dlA (key : Int → Int) (s : Nat) (σ : Int → Int) (k : Nat) (rw_ sm_ : Int → Int) : Prop := (∀ q : Nat, q < k → rw_ (σ q) = (dlS key s σ k).1 (σ q)) ∧ ∀ r : Int, 0 ≤ r → r < s → sm_ r = (dlS key s σ k).2 r
theorem dlA_step {key : Int → Int} {s : Nat} {σ : Int → Int} {k : Nat} {rw_ sm_ : Int → Int} (h : dlA key s σ k rw_ sm_) (hs : 1 ≤ s) : dlA key s σ (k + 1) (fu rw_ (σ k) (dlR s k)) (fu sm_ (dlR s k) (sm_ (dlR s k) + key (σ k))) := by
  have rb := dlR_bd (s := s) (k := k) hs
  refine ⟨fun q hq => ?_, fun r r0 r1 => ?_⟩
  · show fu rw_ _ _ _ = fu (dlS key s σ k).1 _ _ _
    unfold fu
    by_cases e : σ q = σ k
    · rw [if_pos e, if_pos e]
    · rw [if_neg e, if_neg e]
      exact h.1 q (by by_cases e2 : q = k
                      · rw [e2] at e; exact absurd rfl e
                      · omega)
  · show fu sm_ _ _ _ = fu (dlS key s σ k).2 _ _ _
    rw [h.2 _ rb.1 rb.2]
    unfold fu
    rw [h.2 r r0 r1]
section SW3
variable {l : Launch} {D : Nat} {ζ : ZP} {h : HI} {Q : Int → HI → Prop} {QV : HI → Prop} {key : Int → Int} {s n : Nat}
theorem s_xfind (hn : 144 ≤ ζ.2.2.2.2) (hs : h 65 7 = s) (hN : h 65 0 = n) (h6 : h 65 6 = 0) (s1 : 1 ≤ s) (s40 : s ≤ 40) (n40 : n ≤ 40) (hk : ∀ q : Int, 0 ≤ q → q < n → h 66 q = key q ∧ 0 ≤ key q ∧ key q ≤ 6000) (hq : ∀ (h' : HI) (k : Nat) (st : SW), FL [(65, 3), (65, 4), (65, 5), (65, 6), (67, -1), (68, -1), (69, -1)] h h' → swE key s n k (dlS key s (sI key (fun _ => 0) n) n) st → swA s n st (h' 67) (h' 68) → swK s n (240000 + 6000 * k) st → h' 65 3 = mnI st.2 s → h' 65 4 = mxI st.2 s → h' 65 5 = (sm (fun q => key q) n).tdiv s → h' 65 6 = k → QV h') : RtV l (D + 4) mX6_find (zz ζ) [aP 65] h QV := by
  have hk' : ∀ q : Int, 0 ≤ q → q < n → 0 ≤ key q ∧ key q ≤ 6000 := fun q q0 q1 => (hk q q0 q1).2
  have sb := fun (k : Nat) (hk2 : k ≤ n) => sm_bd (f := fun q : Nat => key q) (K := 0) (L := 6000) (n := k) (fun q hq2 => hk' q (by omega) (by omega))
  refine e_X6_find hn (e_X6_deal hn ?_)
  -- behind the deal
  have loop : ∀ (m k : Nat) (st : SW) (g : HI), k + m = 500 → FL [(65, 3), (65, 4), (65, 5), (65, 6), (67, -1), (68, -1), (69, -1)] h g → swN key s n k (dlS key s (sI key (fun _ => 0) n) n) st → swA s n st (g 67) (g 68) → swK s n (240000 + 6000 * k) st → g 65 3 = mnI st.2 s → g 65 4 = mxI st.2 s → g 65 5 = (sm (fun q => key q) n).tdiv s → g 65 6 = k → G l (D + 4) 0 0 mX6_find (zz ζ) 12 [aP 65, aI m] [] g (qV (zz ζ) QV) := by
    intro m
    induction m with
    | zero =>
      intro k st g hm f w1 w2 w3 w4 w5 w6 w7
      exact b_X6_find_12 hn ⟨by decide, iteP (by decide) (hq g k st f ⟨by omega, w1, fun q => absurd q (by omega)⟩ w2 w3 w4 w5 w6 w7)⟩
    | succ m ih =>
      intro k st g hm f w1 w2 w3 w4 w5 w6 w7
      have g7 : g 65 7 = s := by rw [f.at 65 7 rfl]; exact hs
      have g0 : g 65 0 = n := by rw [f.at 65 0 rfl]; exact hN
      have gk : ∀ q : Int, 0 ≤ q → q < n → g 66 q = key q ∧ 0 ≤ key q ∧ key q ≤ 6000 := fun q q0 q1 => by rw [f.c 66 rfl]; exact hk q q0 q1
      refine b_X6_find_12 hn ⟨by constructor <;> omega, iteN (by omega) (s_exchangeFirst hn g7 g0 s40 n40 (K := 240000 + 6000 * k) ⟨by omega, by omega⟩ w3 w2 w4 w5 gk (fun i j hp g1 f1 a1 => ?_) (fun no => ?_))⟩
      · have wX := swK_X (key := key) w3 (i := (i : Int)) (j := (j : Int)) ⟨by omega, by have := hp.1; have := hp.2.1; omega⟩ ⟨by omega, by have := hp.2.1; omega⟩ hk' hp.2.2.1.1
        have e16 : g1 65 6 = k := by rw [f1.at 65 6 rfl]; exact w7
        rw [e16]
        refine ⟨by decide, iteN (by decide) (s_xmeasure hn (s := s) ?_ s1 s40 (f := (swX key st i j).2) (K := 240000 + 6000 * k + 6000) (by omega) (fun r r0 r1 => ⟨?_, wX.2 r r0 r1⟩) (fun g2 f2 b3 b4 => ?_))⟩
        · rw [hu_j _ _ _ (by decide), f1.at 65 7 rfl]; exact g7
        · rw [hu_c _ _ _ (by decide)]; exact a1.2 r r0 r1
        · rw [show ((m + 1 : Nat) : Int) + (-1) = (m : Int) by omega]
          refine ih (k + 1) (swX key st i j) g2 (by omega) (((f.trans (f1.mono rfl)).u rfl).trans (f2.mono rfl)) (swN_snoc w1 hp) ?_ ?_ b3 b4 ?_ ?_
          · rw [f2.c 67 rfl, f2.c 68 rfl, hu_c _ _ _ (by decide), hu_c _ _ _ (by decide)]; exact a1
          · refine ⟨wX.1, fun r r0 r1 => ?_⟩
            have := wX.2 r r0 r1
            omega
          · rw [f2.at 65 5 rfl, hu_j _ _ _ (by decide), f1.at 65 5 rfl]; exact w6
          · rw [f2.at 65 6 rfl, hu_s]; omega
      · exact ⟨by decide, iteP rfl (hq g k st f ⟨by omega, w1, fun _ => no⟩ w2 w3 w4 w5 w6 w7)⟩
  have σb : ∀ q : Int, 0 ≤ q → q < n → 0 ≤ sI key (fun _ => 0) n q ∧ sI key (fun _ => 0) n q < n := fun q q0 q1 => sI_bd q q0 q1
  -- the third loop: dealing
  have m119 : ∀ (m k : Nat) (g : HI), k + m = n → FL [(65, 5), (67, -1), (68, -1), (69, -1)] h g → (∀ j : Int, 0 ≤ j → j < n → g 69 j = sI key (fun _ => 0) n j) → g 65 5 = (sm (fun q => key q) n).tdiv s → dlA key s (sI key (fun _ => 0) n) k (g 67) (g 68) → G l (D + 3) 0 0 mX6_deal (zz ζ) 119 [aP 65, aU, aI k, aU, aU, aU] [] g (qV (zz ζ) (fun h1 => RtV l (D + 3) mX6_measure (zz ζ) [aP 65] h1 (fun h2 => G l (D + 4) 0 0 mX6_find (zz ζ) 12 [aP 65, aI 500] [] h2 (qV (zz ζ) QV)))) := by
    intro m
    induction m with
    | zero =>
      intro k g hm f e69 e5 dA
      have : k = n := by omega
      subst this
      have g7 : g 65 7 = s := by rw [f.at 65 7 rfl]; exact hs
      have g0 : g 65 0 = k := by rw [f.at 65 0 rfl]; exact hN
      have db := dlS_bd (key := key) (s := s) (σ := sI key (fun _ => 0) k) s1 hk' σb (k := k) (Nat.le_refl _)
      refine b_X6_deal_119 hn ⟨by constructor <;> omega, by rw [g0]; constructor <;> omega, iteP (by rw [g0]; omega) (s_xmeasure hn g7 s1 s40 (f := (dlS key s (sI key (fun _ => 0) k) k).2) (K := 240000) (by decide) (fun r r0 r1 => ⟨dA.2 r r0 r1, by have := db.2 r; omega⟩) (fun g2 f2 b3 b4 => ?_))⟩
      refine loop 500 0 (dlS key s (sI key (fun _ => 0) k) k) g2 (by omega) ((f.mono rfl).trans (f2.mono rfl)) rfl ⟨fun j j0 j1 => ?_, fun r r0 r1 => ?_⟩ ⟨fun j _ _ => db.1 j, fun r _ _ => by have := db.2 r; omega⟩ b3 b4 ?_ ?_
      · rw [f2.c 67 rfl]
        obtain ⟨q, q0, q1, q2⟩ := sI_sur (key := key) (a := fun _ => 0) (n := k) j j0 j1
        have := dA.1 q.toNat (by omega)
        rw [show ((q.toNat : Nat) : Int) = q by omega, q2] at this
        exact this
      · rw [f2.c 68 rfl]; exact dA.2 r r0 r1
      · rw [f2.at 65 5 rfl]; exact e5
      · rw [f2.at 65 6 rfl, f.at 65 6 rfl]; exact h6
    | succ m ih =>
      intro k g hm f e69 e5 dA
      have g7 : g 65 7 = s := by rw [f.at 65 7 rfl]; exact hs
      have g0 : g 65 0 = n := by rw [f.at 65 0 rfl]; exact hN
      have td := dl_tdiv (k := k) s1
      have rb := dlR_bd (s := s) (k := k) s1
      have dm := Nat.div_add_mod k s
      have dle : k / s ≤ k := Nat.div_le_self k s
      have dge : (0 : Int) ≤ ((k / s : Nat) : Int) := Int.natCast_nonneg _
      have along : (k : Int) - ((k / s : Nat) : Int) * s = ((k % s : Nat) : Int) := by
        have e1 : ((s * (k / s) + k % s : Nat) : Int) = ((k / s : Nat) : Int) * s + ((k % s : Nat) : Int) := by rw [Int.natCast_add, Int.natCast_mul, Int.mul_comm]
        omega
      have sk := σb k (by omega) (by omega)
      have kk66 : g 66 (sI key (fun _ => 0) n k) = key (sI key (fun _ => 0) n k) := by rw [f.c 66 rfl]; exact (hk _ sk.1 sk.2).1
      refine b_X6_deal_119 hn ⟨by constructor <;> omega, by rw [g0]; constructor <;> omega, iteN (by rw [g0]; omega) ?_⟩
      rw [g7]
      refine s_cut hn (by constructor <;> omega) (by constructor <;> omega) ?_
      rw [if_neg (by omega), td.1, g7, along, e69 k (by omega) (by omega), kk66, dl_even]
      have nxt := ih (k + 1) (hu (hu g 67 (sI key (fun _ => 0) n k) (dlR s k)) 68 (dlR s k) (g 68 (dlR s k) + key (sI key (fun _ => 0) n k))) (by omega) ((f.ua rfl).ua rfl) (fun j j0 j1 => by rw [hu_c _ _ _ (by decide), hu_c _ _ _ (by decide)]; exact e69 j j0 j1) (by rw [hu_c _ _ _ (by decide), hu_c _ _ _ (by decide)]; exact e5) (by
        have := dlA_step dA s1
        rw [hu_c (hu g 67 _ _) (k := 68) (a := 67) _ _ (by decide), hu_fu, hu_fu, hu_c _ _ _ (by decide)]
        exact this)
      rw [show ((k + 1 : Nat) : Int) = (k : Int) + 1 by omega] at nxt
      have m2 : k / s % 2 < 2 := Nat.mod_lt _ (by decide)
      refine ⟨by constructor <;> omega, by constructor <;> omega, iteI (fun y => ?_) (fun y => ?_)⟩
      · have er : (s : Int) - 1 - ((k % s : Nat) : Int) = dlR s k := by unfold dlR; rw [if_neg (by omega)]
        rw [er]
        exact ⟨⟨by omega, by omega⟩, ⟨sk.1, by omega⟩, ⟨rb.1, by omega⟩, nxt⟩
      · have er : ((k % s : Nat) : Int) = dlR s k := by unfold dlR; rw [if_pos (by omega)]
        rw [er]
        exact ⟨⟨by omega, by omega⟩, ⟨sk.1, by omega⟩, ⟨rb.1, by omega⟩, nxt⟩
  -- the second loop: zero sums
  have m96 : ∀ (m r : Nat) (g : HI), r + m = s → FL [(65, 5), (67, -1), (68, -1), (69, -1)] h g → (∀ j : Int, 0 ≤ j → j < n → g 69 j = sI key (fun _ => 0) n j) → g 65 5 = (sm (fun q => key q) n).tdiv s → (∀ q : Int, 0 ≤ q → q < r → g 68 q = 0) → G l (D + 3) 0 0 mX6_deal (zz ζ) 96 [aP 65, aU, aI r, aU, aU, aU] [] g (qV (zz ζ) (fun h1 => RtV l (D + 3) mX6_measure (zz ζ) [aP 65] h1 (fun h2 => G l (D + 4) 0 0 mX6_find (zz ζ) 12 [aP 65, aI 500] [] h2 (qV (zz ζ) QV)))) := by
    intro m
    induction m with
    | zero =>
      intro r g hm f e69 e5 e0
      have g7 : g 65 7 = s := by rw [f.at 65 7 rfl]; exact hs
      refine b_X6_deal_96 hn ⟨by constructor <;> omega, by rw [g7]; constructor <;> omega, iteP (by rw [g7]; omega) ?_⟩
      exact m119 n 0 g (by omega) f e69 e5 ⟨fun q hq2 => absurd hq2 (by omega), fun q q0 q1 => e0 q q0 (by omega)⟩
    | succ m ih =>
      intro r g hm f e69 e5 e0
      have g7 : g 65 7 = s := by rw [f.at 65 7 rfl]; exact hs
      refine b_X6_deal_96 hn ⟨by constructor <;> omega, by rw [g7]; constructor <;> omega, iteN (by rw [g7]; omega) ⟨⟨by omega, by omega⟩, ?_⟩⟩
      have nxt := ih (r + 1) (hu g 68 r 0) (by omega) (f.ua rfl) (fun j j0 j1 => by rw [hu_c _ _ _ (by decide)]; exact e69 j j0 j1) (by rw [hu_c _ _ _ (by decide)]; exact e5) (fun q q0 q1 => by
        by_cases e : q = r
        · rw [e, hu_s]
        · rw [hu_j _ _ _ e]; exact e0 q q0 (by omega))
      rw [show ((r + 1 : Nat) : Int) = (r : Int) + 1 by omega] at nxt
      exact nxt
  -- the first loop: sorting
  have m4 : ∀ (m k : Nat) (g : HI), k + m = n → FL [(65, 5), (67, -1), (68, -1), (69, -1)] h g → g 69 = sI key (h 69) k → G l (D + 3) 0 0 mX6_deal (zz ζ) 4 [aP 65, aI (sm (fun q => key q) k), aI k, aU, aU, aU] [] g (qV (zz ζ) (fun h1 => RtV l (D + 3) mX6_measure (zz ζ) [aP 65] h1 (fun h2 => G l (D + 4) 0 0 mX6_find (zz ζ) 12 [aP 65, aI 500] [] h2 (qV (zz ζ) QV)))) := by
    intro m
    induction m with
    | zero =>
      intro k g hm f e69
      have : k = n := by omega
      subst this
      have g7 : g 65 7 = s := by rw [f.at 65 7 rfl]; exact hs
      have g0 : g 65 0 = k := by rw [f.at 65 0 rfl]; exact hN
      have sk := sb k (Nat.le_refl _)
      refine b_X6_deal_4 hn ⟨by constructor <;> omega, by rw [g0]; constructor <;> omega, iteP (by rw [g0]; omega) ?_⟩
      rw [g7]
      refine s_cut hn (by constructor <;> omega) (by constructor <;> omega) ?_
      rw [if_neg (by omega)]
      exact m96 s 0 (hu g 65 5 _) (by omega) (f.u rfl) (fun j j0 j1 => by rw [hu_c _ _ _ (by decide), e69]; exact sI_congr j j0 j1) (hu_s _ _ _ _) (fun q q0 q1 => by omega)
    | succ m ih =>
      intro k g hm f e69
      have g0 : g 65 0 = n := by rw [f.at 65 0 rfl]; exact hN
      have hkk := hk k (by omega) (by omega)
      have gkk : g 66 k = key k := by rw [f.c 66 rfl]; exact hkk.1
      refine b_X6_deal_4 hn ⟨by constructor <;> omega, by rw [g0]; constructor <;> omega, iteN (by rw [g0]; omega) ⟨⟨by omega, by omega⟩, ?_⟩⟩
      rw [gkk]
      have fin : ∀ g' : HI, FL [(65, 5), (67, -1), (68, -1), (69, -1)] h g' → g' 69 = sI key (h 69) (k + 1) → G l (D + 3) 0 0 mX6_deal (zz ζ) 4 [aP 65, aI (sm (fun q => key q) k + key k), aI ((k : Int) + 1), aU, aU, aU] [] g' (qV (zz ζ) (fun h1 => RtV l (D + 3) mX6_measure (zz ζ) [aP 65] h1 (fun h2 => G l (D + 4) 0 0 mX6_find (zz ζ) 12 [aP 65, aI 500] [] h2 (qV (zz ζ) QV)))) := by
        intro g' f' e'
        have nxt := ih (k + 1) g' (by omega) f' e'
        rw [show ((k + 1 : Nat) : Int) = (k : Int) + 1 by omega] at nxt
        exact nxt
      have ins : ∀ (i : Nat) (g' : HI), i ≤ k → FL [(65, 5), (67, -1), (68, -1), (69, -1)] h g' → (∀ j : Int, 0 ≤ j → j < i → 0 ≤ g' 69 j ∧ g' 69 j < k) → insI key k i (g' 69) = sI key (h 69) (k + 1) → G l (D + 3) 0 0 mX6_deal (zz ζ) 23 [aP 65, aI (sm (fun q => key q) k + key k), aI k, aI i, aU, aU] [] g' (qV (zz ζ) (fun h1 => RtV l (D + 3) mX6_measure (zz ζ) [aP 65] h1 (fun h2 => G l (D + 4) 0 0 mX6_find (zz ζ) 12 [aP 65, aI 500] [] h2 (qV (zz ζ) QV)))) := by
        intro i
        induction i with
        | zero =>
          intro g' hi f' r' e'
          refine b_X6_deal_23 hn ⟨by decide, iteP (by decide) ⟨⟨by decide, by decide⟩, fin _ (f'.ua rfl) ?_⟩⟩
          rw [hu_fu, ← e']; rfl
        | succ i ihi =>
          intro g' hi f' r' e'
          have ri := r' i (by omega) (by omega)
          have ki := hk (g' 69 i) ri.1 (by omega)
          have a66 : g' 66 = h 66 := f'.c 66 rfl
          refine b_X6_deal_23 hn ⟨by constructor <;> omega, iteN (by omega) ?_⟩
          rw [show ((i + 1 : Nat) : Int) - 1 = (i : Int) by omega, a66, ki.1, hkk.1]
          refine ⟨⟨by omega, by omega⟩, ⟨by omega, by omega⟩, ⟨by omega, by omega⟩, by constructor <;> omega, by constructor <;> omega, iteI (fun q => ⟨⟨by omega, by omega⟩, fin _ (f'.ua rfl) ?_⟩) (fun q => ⟨⟨by omega, by omega⟩, ?_⟩)⟩
          · rw [hu_fu, ← e', insI_p q]; rfl
          · rw [show ((i + 1 : Nat) : Int) + (-1) = (i : Int) by omega]
            refine ihi _ (by omega) (f'.ua rfl) (fun j j0 j1 => ?_) ?_
            · rw [hu_fu, fu_n _ _ (by omega)]; exact r' j j0 (by omega)
            · rw [hu_fu, ← e', insI_n q]; rfl
      refine ins k g (Nat.le_refl _) f (fun j j0 j1 => ?_) ?_
      · rw [e69]; exact sI_bd j j0 j1
      · rw [e69]; rfl
  exact m4 n 0 h (by omega) FL.refl rfl
end SW3
