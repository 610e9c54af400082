/-! rest: both sides -/
section OP6
variable {l : Launch} {D : Nat} {ζ : ZP} {h : HI} {Q : Int → HI → Prop} {c d v w x : Int}
theorem s_restAhead (hn : 144 ≤ ζ.2.2.2.2) {n : Nat} (hn2 : n ≤ 200) (hs : ∀ k : Nat, k < n → rg (h 99 (877 + 4 * (k : Int)))) (r1 : rg c) (hq : Q (lst (rq (h 99) c) n) h) : RtI l (D + 1) mX12_restAhead (zz ζ) [aP 97, aI c, aI n] h Q := by
  refine e_X12_restAhead hn ?_
  have main : ∀ k : Nat, k ≤ n → lst (rq (h 99) c) k = lst (rq (h 99) c) n → G l (D + 1) 0 0 mX12_restAhead (zz ζ) 4 [aP 97, aI c, aU, aI ((k : Int) - 1)] [] h (qI (zz ζ) Q) := by
    intro k
    induction k with
    | zero =>
      intro hk e
      refine b_X12_restAhead_4 hn ⟨by decide, iteP (by decide) ?_⟩
      rw [← e] at hq; exact hq
    | succ k ih =>
      intro hk e
      rw [show ((k + 1 : Nat) : Int) - 1 = (k : Int) by omega]
      refine b_X12_restAhead_4 hn ⟨by constructor <;> omega, iteN (by omega) ⟨⟨by omega, by omega⟩, hs k (by omega), r1, iteI (fun q => ?_) (fun q => ?_)⟩⟩
      · have hf : rq (h 99) c k = false := decide_eq_false q
        rw [show (k : Int) + (-1) = (k : Int) - 1 by omega]
        refine ih (by omega) ?_
        rw [← e]
        show _ = (if rq (h 99) c k then (k : Int) else lst (rq (h 99) c) k)
        rw [hf]; rfl
      · have hf : rq (h 99) c k = true := decide_eq_true (by omega)
        have e2 : lst (rq (h 99) c) (k + 1) = k := by
          show (if rq (h 99) c k then (k : Int) else lst (rq (h 99) c) k) = k
          rw [hf]; rfl
        rw [← e, e2] at hq; exact hq
  exact main n (Nat.le_refl _) rfl
theorem s_xrest (hn : 144 ≤ ζ.2.2.2.2) (g1 : 0 ≤ h 3 3 ∧ h 3 3 ≤ 60) (g2 : 0 ≤ h 3 10 ∧ h 3 10 ≤ 200) (g3 : ∀ c, 0 ≤ c → c < h 3 3 → 0 ≤ h 27 c ∧ h 27 c ≤ 200 ∧ (0 < h 27 c → (0 ≤ h 30 c ∧ h 30 c ≤ 99) ∧ (0 ≤ h 31 c ∧ h 31 c ≤ 4200))) (g7 : 0 ≤ h 7 7 ∧ h 7 7 ≤ 99) (g8 : rg (h 7 8)) (r1 : rg c) (r2 : rg d) (r3 : rg v) (r4 : rg w) {J W : Bool} (hJ : 0 ≤ c → c < h 3 3 → h 32 c = (if J then 2 else 0) + (if W then 4 else 0)) (hy : rsA h c d v w → ∀ h', FL [(27, -1), (28, -1), (29, -1), (30, -1), (31, -1), (32, -1), (3, 10)] h h' → h' 3 10 = h 3 10 + 1 → h' 27 = fu (h 27) c (h 27 c + 1) → h' 28 = (if h 27 c = 0 then fu (h 28) c d else h 28) → h' 29 = (if h 27 c = 0 then fu (h 29) c v else h 29) → h' 30 = fu (h 30) c d → h' 31 = fu (h 31) c v → h' 32 = fu (h 32) c ((if J || decide (h 27 c ≠ 0 ∧ h 7 7 * (d - h 30 c) < h 31 c - v) then 2 else 0) + (if W || decide (h 7 8 ≤ w) then 4 else 0)) → Q (h 3 10) h') (hz : ¬ rsA h c d v w → Q (-1) h) : RtI l (D + 10) mX11_rest (zz ζ) [aP 0, aI c, aI d, aI v, aI w] h Q := by
  refine e_X11_rest hn (s_hasCell hn r1 (by constructor <;> omega) ?_)
  by_cases c1 : 0 ≤ c ∧ c ≤ h 3 3 - 1
  rotate_left
  · rw [if_neg c1]
    exact ⟨by decide, iteP rfl (hz (fun a => c1 a.1))⟩
  rw [if_pos c1]
  refine ⟨by decide, iteN (by decide) ⟨by constructor <;> omega, iteI (fun c2 => ?_) (fun c2 => hz (fun a => c2 a.2.1))⟩⟩
  refine s_within hn r2 (by decide) (by decide) ?_
  by_cases c3 : 0 ≤ d ∧ d ≤ 99
  rotate_left
  · rw [if_neg c3]
    exact ⟨by decide, iteP rfl (hz (fun a => c3 a.2.2.1))⟩
  rw [if_pos c3]
  refine ⟨by decide, iteN (by decide) (s_within hn r3 (by decide) (by decide) ?_)⟩
  by_cases c4 : 0 ≤ v ∧ v ≤ 4200
  rotate_left
  · rw [if_neg c4]
    exact ⟨by decide, iteP rfl (hz (fun a => c4 a.2.2.2.1))⟩
  rw [if_pos c4]
  refine ⟨by decide, iteN (by decide) (s_within hn r4 (by decide) (by decide) ?_)⟩
  by_cases c5 : 0 ≤ w ∧ w ≤ 99
  rotate_left
  · rw [if_neg c5]
    exact ⟨by decide, iteN (by decide) (hz (fun a => c5 a.2.2.2.2.1))⟩
  rw [if_pos c5]
  have g := g3 c c1.1 (by omega)
  have hc : 0 ≤ c ∧ c < 60 := by omega
  have sg := hJ c1.1 (by omega)
  have add : (h 27 c = 0 ∨ h 30 c < d) → RtI l (D + 9) mX5_addRest (zz ζ) [aP 3, aI c, aI d, aI v, aI w] h Q := by
    intro hl
    have A : rsA h c d v w := ⟨c1, c2, c3, c4, c5, hl⟩
    have hy := hy A
    have tail : ∀ (g' : HI) (J' : Bool), FL [(28, -1), (29, -1), (32, -1)] h g' → g' 28 = (if h 27 c = 0 then fu (h 28) c d else h 28) → g' 29 = (if h 27 c = 0 then fu (h 29) c v else h 29) → g' 32 = fu (h 32) c ((if J' then 2 else 0) + (if W then 4 else 0)) → J' = (J || decide (h 27 c ≠ 0 ∧ h 7 7 * (d - h 30 c) < h 31 c - v)) → G l (D + 9) 0 0 mX5_addRest (zz ζ) 66 [aP 3, aI c, aI d, aI v, aI w] [] g' (qI (zz ζ) Q) := by
      intro g' J' f e28 e29 e32 eJ
      subst eJ
      have a1 : g' 7 8 = h 7 8 := f.at 7 8 rfl
      have a2 : g' 3 10 = h 3 10 := f.at 3 10 rfl
      have a3 : g' 27 = h 27 := f.c 27 rfl
      have a4 : g' 30 = h 30 := f.c 30 rfl
      have a5 : g' 31 = h 31 := f.c 31 rfl
      have a6 : g' 32 c = (if (J || decide (h 27 c ≠ 0 ∧ h 7 7 * (d - h 30 c) < h 31 c - v)) then 2 else 0) + (if W then 4 else 0) := by rw [e32, fu_s]
      refine b_X5_addRest_66 hn ⟨r4, by rw [a1]; exact g8, ?_⟩
      rw [a1, a2, a3, show h 3 10 + 1 - 1 = h 3 10 by omega]
      refine iteI (fun z => ⟨hc, hy _ (((((f.mono rfl).ua rfl).ua rfl).ua rfl).u rfl) ?_ ?_ ?_ ?_ ?_ ?_ ?_⟩) (fun z => ⟨hc, hy _ ((((((f.mono rfl).ua rfl).ua rfl).ua rfl).ua rfl).u rfl) ?_ ?_ ?_ ?_ ?_ ?_ ?_⟩)
      · simp [hu]
      · rw [hu_c _ _ _ (by decide), hu_fu, hu_c _ _ _ (by decide), hu_c _ _ _ (by decide), a3]
      · rw [hu_c _ _ _ (by decide), hu_c _ _ _ (by decide), hu_c _ _ _ (by decide), hu_c _ _ _ (by decide), e28]
      · rw [hu_c _ _ _ (by decide), hu_c _ _ _ (by decide), hu_c _ _ _ (by decide), hu_c _ _ _ (by decide), e29]
      · rw [hu_c _ _ _ (by decide), hu_c _ _ _ (by decide), hu_c _ _ _ (by decide), hu_fu, a4]
      · rw [hu_c _ _ _ (by decide), hu_c _ _ _ (by decide), hu_fu, hu_c _ _ _ (by decide), a5]
      · rw [hu_c _ _ _ (by decide), hu_c _ _ _ (by decide), hu_c _ _ _ (by decide), hu_c _ _ _ (by decide), e32, decide_eq_false (show ¬ h 7 8 ≤ w by omega), Bool.or_false]
      · simp [hu]
      · rw [hu_c _ _ _ (by decide), hu_fu, hu_c _ _ _ (by decide), hu_c _ _ _ (by decide), hu_c _ _ _ (by decide), a3]
      · rw [hu_c _ _ _ (by decide), hu_c _ _ _ (by decide), hu_c _ _ _ (by decide), hu_c _ _ _ (by decide), hu_c _ _ _ (by decide), e28]
      · rw [hu_c _ _ _ (by decide), hu_c _ _ _ (by decide), hu_c _ _ _ (by decide), hu_c _ _ _ (by decide), hu_c _ _ _ (by decide), e29]
      · rw [hu_c _ _ _ (by decide), hu_c _ _ _ (by decide), hu_c _ _ _ (by decide), hu_fu, hu_c _ _ _ (by decide), a4]
      · rw [hu_c _ _ _ (by decide), hu_c _ _ _ (by decide), hu_fu, hu_c _ _ _ (by decide), hu_c _ _ _ (by decide), a5]
      · rw [hu_c _ _ _ (by decide), hu_c _ _ _ (by decide), hu_c _ _ _ (by decide), hu_c _ _ _ (by decide), hu_fu, a6, bor_4, e32, decide_eq_true (show h 7 8 ≤ w by omega), Bool.or_true]
        funext j
        unfold fu
        split <;> rfl
    have self : fu (h 32) c (h 32 c) = h 32 := by funext j; unfold fu; split <;> simp_all
    refine e_X5_addRest hn ⟨hc, by constructor <;> omega, iteI (fun z => ?_) (fun z => ?_)⟩
    · have z2 := g.2.2 (by omega)
      have hb : 0 ≤ d - h 30 c ∧ d - h 30 c ≤ 99 := by rcases hl with y | y <;> omega
      have hm := Int.mul_le_mul g7.2 hb.2 hb.1 (by decide)
      have hm0 := Int.mul_nonneg g7.1 hb.1
      refine ⟨by constructor <;> omega, by constructor <;> omega, iteI (fun y => tail h J FL.refl ?_ ?_ ?_ ?_) (fun y => tail _ true (FL.refl.ua rfl) ?_ ?_ ?_ ?_)⟩
      · rw [if_neg z]
      · rw [if_neg z]
      · rw [← sg, self]
      · rw [decide_eq_false (show ¬ (h 27 c ≠ 0 ∧ h 7 7 * (d - h 30 c) < h 31 c - v) from fun q => by have := q.2; omega), Bool.or_false]
      · rw [if_neg z, hu_c _ _ _ (by decide)]
      · rw [if_neg z, hu_c _ _ _ (by decide)]
      · rw [hu_fu, sg, bor_2]; rfl
      · rw [decide_eq_true (show h 27 c ≠ 0 ∧ h 7 7 * (d - h 30 c) < h 31 c - v from ⟨z, by omega⟩), Bool.or_true]
    · have z' : h 27 c = 0 := by omega
      refine tail _ J ((FL.refl.ua rfl).ua rfl) ?_ ?_ ?_ ?_
      · rw [if_pos z', hu_c _ _ _ (by decide), hu_fu]
      · rw [if_pos z', hu_fu, hu_c _ _ _ (by decide)]
      · rw [hu_c _ _ _ (by decide), hu_c _ _ _ (by decide), ← sg, self]
      · rw [decide_eq_false (show ¬ (h 27 c ≠ 0 ∧ h 7 7 * (d - h 30 c) < h 31 c - v) from fun q => q.1 z'), Bool.or_false]
  refine ⟨by decide, iteP (by decide) ⟨hc, by constructor <;> omega, iteI (fun z => add (Or.inl (by omega))) (fun z => ?_)⟩⟩
  have z2 := g.2.2 (by omega)
  exact ⟨r2, by constructor <;> omega, iteI (fun y => add (Or.inr y)) (fun y => hz (fun a => by rcases a.2.2.2.2.2 with q | q <;> omega))⟩
theorem s_mrest (hn : 144 ≤ ζ.2.2.2.2) (g1 : 0 ≤ h 99 11 ∧ h 99 11 ≤ 60) {n : Nat} (g2 : h 99 13 = n) (g2' : n ≤ 200) (g3 : ∀ k : Nat, k < n → rg (h 99 (877 + 4 * (k : Int))) ∧ rg (h 99 (877 + 4 * (k : Int) + 1))) (r1 : rg c) (r2 : rg d) (r3 : rg v) (r4 : rg w) {A : Prop} (hA : A ↔ (0 ≤ c ∧ c ≤ h 99 11 - 1) ∧ n < 200 ∧ (0 ≤ d ∧ d ≤ 99) ∧ (0 ≤ v ∧ v ≤ 4200) ∧ (0 ≤ w ∧ w ≤ 99) ∧ (lst (rq (h 99) c) n = -1 ∨ h 99 (877 + 4 * lst (rq (h 99) c) n + 1) < d)) (hy : A → ∀ h', FL [(97, 0), (99, -1)] h h' → h' 99 = fu (fu (fu (fu (fu (h 99) (877 + 4 * (n : Int)) c) (877 + 4 * (n : Int) + 1) d) (877 + 4 * (n : Int) + 2) v) (877 + 4 * (n : Int) + 3) w) 13 ((n : Int) + 1) → Q n h') (hz : ¬ A → Q (-1) (hu h 97 0 0)) : RtI l (D + 10) mX12_rest (zz ζ) [aP 97, aI c, aI d, aI v, aI w] h Q := by
  have e99 : hu h 97 0 0 99 = h 99 := hu_c _ _ _ (by decide)
  refine e_X12_rest hn ⟨by rw [g2]; constructor <;> omega, ?_⟩
  rw [g2]
  refine iteI (fun c0 => hz (fun a => by have := (hA.mp a).2.1; omega)) (fun c0 => s_isCell hn r1 (by rw [e99]; constructor <;> omega) ?_)
  rw [e99]
  by_cases c1 : 0 ≤ c ∧ c ≤ h 99 11 - 1
  rotate_left
  · rw [if_neg c1]
    exact ⟨by decide, iteP rfl (hz (fun a => c1 (hA.mp a).1))⟩
  rw [if_pos c1]
  refine ⟨by decide, iteN (by decide) (s_isIn hn r2 (by decide) (by decide) ?_)⟩
  by_cases c3 : 0 ≤ d ∧ d ≤ 99
  rotate_left
  · rw [if_neg c3]
    exact ⟨by decide, iteP rfl (hz (fun a => c3 (hA.mp a).2.2.1))⟩
  rw [if_pos c3]
  refine ⟨by decide, iteN (by decide) (s_isIn hn r3 (by decide) (by decide) ?_)⟩
  by_cases c4 : 0 ≤ v ∧ v ≤ 4200
  rotate_left
  · rw [if_neg c4]
    exact ⟨by decide, iteP rfl (hz (fun a => c4 (hA.mp a).2.2.2.1))⟩
  rw [if_pos c4]
  refine ⟨by decide, iteN (by decide) (s_isIn hn r4 (by decide) (by decide) ?_)⟩
  by_cases c5 : 0 ≤ w ∧ w ≤ 99
  rotate_left
  · rw [if_neg c5]
    exact ⟨by decide, iteN (by decide) (hz (fun a => c5 (hA.mp a).2.2.2.2.1))⟩
  rw [if_pos c5, e99, g2]
  refine ⟨by decide, iteP (by decide) (s_restAhead hn g2' (fun k hk => by rw [e99]; exact (g3 k hk).1) r1 ?_)⟩
  rw [e99]
  have lb := lst_bd (rq (h 99) c) n
  have fin : (lst (rq (h 99) c) n = -1 ∨ h 99 (877 + 4 * lst (rq (h 99) c) n + 1) < d) → G l (D + 10) 0 0 mX12_rest (zz ζ) 100 [aP 97, aI c, aI d, aI v, aI w, aU, aU] [] (hu h 97 0 0) (qI (zz ζ) Q) := by
    intro hl
    refine b_X12_rest_100 hn ?_
    rw [e99, g2]
    refine ⟨⟨by omega, by omega⟩, ⟨by omega, by omega⟩, ⟨by omega, by omega⟩, ⟨by omega, by omega⟩, ?_⟩
    have e12 : (hu (hu (hu (hu (hu h 97 0 0) 99 (877 + 4 * (n : Int)) c) 99 (877 + 4 * (n : Int) + 1) d) 99 (877 + 4 * (n : Int) + 2) v) 99 (877 + 4 * (n : Int) + 3) w) 99 13 = n := by
      rw [hu_j _ _ _ (by omega), hu_j _ _ _ (by omega), hu_j _ _ _ (by omega), hu_j _ _ _ (by omega), e99, g2]
    rw [e12, show (n : Int) + 1 - 1 = n by omega]
    refine hy (hA.mpr ⟨c1, by omega, c3, c4, c5, hl⟩) _ ((((((FL.refl.u rfl).ua rfl).ua rfl).ua rfl).ua rfl).ua rfl) ?_
    rw [hu_fu, hu_fu, hu_fu, hu_fu, hu_fu, e99]
  refine ⟨by constructor <;> omega, iteI (fun z => fin (Or.inl (by omega))) (fun z => ⟨⟨by omega, by omega⟩, r2, ?_, iteI (fun y => fin (Or.inr y)) (fun y => hz (fun a => by rcases (hA.mp a).2.2.2.2.2 with q | q <;> omega))⟩)⟩
  have := (g3 (lst (rq (h 99) c) n).toNat (by omega)).2
  rwa [show (((lst (rq (h 99) c) n).toNat : Nat) : Int) = lst (rq (h 99) c) n by omega] at this
theorem op_rest (i : Inv ζ h) (r1 : rg c) (r2 : rg d) (r3 : rg v) (r4 : rg w) : Op l (D + 60) ζ mX11_rest mX12_rest [aI c, aI d, aI v, aI w] h := by
  have hn := ζok_n i.1.1
  have sr : SR (stk 3 h) (h 99) (h 101) := i.1.2 2
  obtain ⟨sa, sc, sr', ss, sp, su⟩ := id sr
  have a2 : h 99 11 = h 3 3 ∧ 0 ≤ h 3 3 ∧ h 3 3 ≤ 60 := ⟨sc.1.2.2, sc.1.1, sc.1.2.1⟩
  have a3 : h 99 13 = h 3 10 ∧ 0 ≤ h 3 10 ∧ h 3 10 ≤ 200 := ⟨ss.1.2.2, ss.1.1, ss.1.2.1⟩
  obtain ⟨n, en⟩ : ∃ n : Nat, h 3 10 = n := ⟨(h 3 10).toNat, by omega⟩
  have l7 : h 99 9 = h 7 7 ∧ 0 ≤ h 7 7 ∧ h 7 7 ≤ 99 := sa.2.2.1 7 (by decide) (by decide)
  have l8 : h 99 10 = h 7 8 ∧ 0 ≤ h 7 8 ∧ h 7 8 ≤ 99 := sa.2.2.1 8 (by decide) (by decide)
  have lg : ∀ k : Nat, k < n → (0 ≤ h 99 (877 + 4 * (k : Int)) ∧ h 99 (877 + 4 * (k : Int)) < h 3 3) ∧ (0 ≤ h 99 (877 + 4 * (k : Int) + 1) ∧ h 99 (877 + 4 * (k : Int) + 1) ≤ 99) ∧ (0 ≤ h 99 (877 + 4 * (k : Int) + 2) ∧ h 99 (877 + 4 * (k : Int) + 2) ≤ 4200) ∧ (0 ≤ h 99 (877 + 4 * (k : Int) + 3) ∧ h 99 (877 + 4 * (k : Int) + 3) ≤ 99) := fun k hk => ss.2.1 k (by show (k : Int) < h 3 10; omega)
  have pc : ∀ c : Int, 0 ≤ c → c < h 3 3 → h 27 c = cN (rq (h 99) c) n ∧ (0 < cN (rq (h 99) c) n → h 28 c = h 99 (877 + 4 * fst1 (rq (h 99) c) 0 n + 1) ∧ h 29 c = h 99 (877 + 4 * fst1 (rq (h 99) c) 0 n + 2) ∧ h 30 c = h 99 (877 + 4 * lst (rq (h 99) c) n + 1) ∧ h 31 c = h 99 (877 + 4 * lst (rq (h 99) c) n + 2)) ∧ h 32 c = (if rjp (h 99) c n then 2 else 0) + (if rwm (h 99) c n then 4 else 0) := fun c h0 h1 => by
    have e : (stk 3 h 0 10).toNat = n := by show (h 3 10).toNat = n; omega
    have := ss.2.2.2 c h0 h1
    rw [e] at this
    exact this
  have hA : ∀ g : HI, g 99 = h 99 → (rsA h c d v w ↔ (0 ≤ c ∧ c ≤ g 99 11 - 1) ∧ n < 200 ∧ (0 ≤ d ∧ d ≤ 99) ∧ (0 ≤ v ∧ v ≤ 4200) ∧ (0 ≤ w ∧ w ≤ 99) ∧ (lst (rq (g 99) c) n = -1 ∨ g 99 (877 + 4 * lst (rq (g 99) c) n + 1) < d)) := by
    intro g e
    rw [e, a2.1]
    unfold rsA
    constructor
    · intro ⟨q1, q2, q3, q4, q5, q6⟩
      refine ⟨q1, by omega, q3, q4, q5, ?_⟩
      have w := pc c q1.1 (by omega)
      have cb := cN_bd (rq (h 99) c) n
      by_cases z : 0 < cN (rq (h 99) c) n
      · right
        rw [← (w.2.1 z).2.2.1]
        rcases q6 with y | y <;> omega
      · left
        rcases lst_bd (rq (h 99) c) n with y | y
        · exact y
        · have hr : (((lst (rq (h 99) c) n).toNat : Nat) : Int) = lst (rq (h 99) c) n := by omega
          have aux : ∀ m : Nat, lst (rq (h 99) c) m ≠ -1 → 0 < cN (rq (h 99) c) m := by
            intro m
            induction m with
            | zero => intro z; exact absurd rfl z
            | succ m ih =>
              intro z
              unfold lst at z
              unfold cN
              have := cN_bd (rq (h 99) c) m
              cases em : rq (h 99) c m with
              | true => simp; omega
              | false => rw [em] at z; simp at z; simp; exact ih z
          exact absurd (aux n (by omega)) z
    · intro ⟨q1, q2, q3, q4, q5, q6⟩
      refine ⟨q1, by omega, q3, q4, q5, ?_⟩
      have w := pc c q1.1 (by omega)
      have cb := cN_bd (rq (h 99) c) n
      by_cases z : 0 < cN (rq (h 99) c) n
      · right
        have := lst_lt z
        rw [(w.2.1 z).2.2.1]
        rcases q6 with y | y <;> omega
      · left; omega
  refine s_xrest hn ⟨a2.2.1, a2.2.2⟩ ⟨a3.2.1, a3.2.2⟩ (fun q q0 q1 => ?_) l7.2 (by constructor <;> omega) r1 r2 r3 r4 (J := rjp (h 99) c n) (W := rwm (h 99) c n) (fun q0 q1 => (pc c q0 q1).2.2) (fun A g fx w0 w27 w28 w29 w30 w31 w32 => ?_) (fun A => ?_)
  · have w := pc q q0 q1
    have cb := cN_bd (rq (h 99) q) n
    refine ⟨by omega, by omega, fun z => ?_⟩
    rw [w.1] at z
    have lb := lst_lt z
    have w2 := (w.2.1 z).2.2
    have lq := lg (lst (rq (h 99) q) n).toNat (by omega)
    rw [show (((lst (rq (h 99) q) n).toNat : Nat) : Int) = lst (rq (h 99) q) n by omega] at lq
    rw [w2.1, w2.2]
    exact ⟨lq.2.1, lq.2.2.1⟩
  · have e99 : g 99 = h 99 := fx.c 99 rfl
    refine ⟨fx.c _ rfl, fx.c _ rfl, ?_⟩
    refine s_mrest hn (by rw [e99, a2.1]; exact a2.2) (n := n) (by rw [e99, a3.1, en]) (by omega) (fun k hk => by
      rw [e99]
      have := lg k hk
      exact ⟨by constructor <;> omega, by constructor <;> omega⟩) r1 r2 r3 r4 (hA g e99) (fun _ k fm e => ?_) (fun nA => absurd A nA)
    rw [e99] at e
    have F : FL [(27, -1), (28, -1), (29, -1), (30, -1), (31, -1), (32, -1), (3, 10), (97, 0), (99, -1)] h k := (fx.mono rfl).trans (fm.mono rfl)
    obtain ⟨A1, A2, A3, A4, A5, A6⟩ := A
    refine op_fin2 i en (by constructor <;> omega) F [2] rfl (new1 (n := 2) ?_) ?_
    · refine SR_rest (S := stk 3 h) (S' := stk 3 k) (s := h 99) (s' := k 99) (nm := h 101) (nm' := k 101) (c := c) (d := d) (v := v) (w := w) sr A2 ⟨A1.1, by show c < h 3 3; omega⟩ A3 A4 A5 A6 ((fm.at 3 10 rfl).trans w0) (F.at 3 3 rfl) (F.at 3 5 rfl) (fun q hq h0 h1 => ?_) ((fm.c 27 rfl).trans w27) ((fm.c 28 rfl).trans w28) ((fm.c 29 rfl).trans w29) ((fm.c 30 rfl).trans w30) ((fm.c 31 rfl).trans w31) (fun J W hJW => ?_) ?_ (F.c 101 rfl)
      · rw [stk_at 3 k hq, stk_at 3 h hq]
        refine F.c (3 + q) ?_
        simp only [inC, List.any_cons, List.any_nil, Bool.or_false, Bool.or_eq_false_iff, beq_eq_false_iff_ne]
        omega
      · have hjw : (if J then (2 : Int) else 0) + (if W then 4 else 0) = (if rjp (h 99) c n then 2 else 0) + (if rwm (h 99) c n then 4 else 0) := by
          rw [← (pc c A1.1 (by omega)).2.2]; exact hJW.symm
        have eJ : J = rjp (h 99) c n ∧ W = rwm (h 99) c n := by
          revert hjw
          cases J <;> cases W <;> cases rjp (h 99) c n <;> cases rwm (h 99) c n <;> simp
        rw [eJ.1, eJ.2]
        exact (fm.c 32 rfl).trans w32
      · show k 99 = fu (fu (fu (fu (fu (h 99) (877 + 4 * h 3 10) c) (877 + 4 * h 3 10 + 1) d) (877 + 4 * h 3 10 + 2) v) (877 + 4 * h 3 10 + 3) w) 13 (h 3 10 + 1)
        rw [en]; exact e
    · have t := i.2
      unfold trI at t ⊢
      have et : td (stk 3 k) = td (stk 3 h) := td_eq (F.c 23 rfl) (F.c 24 rfl) (F.c 25 rfl) (F.c 26 rfl) (F.at 3 5 rfl) (F.at 3 3 rfl) (F.at 4 3 rfl)
      rw [F.c 40 rfl, et]
      exact ⟨t.1, fun z => ⟨(t.2 z).1.fl F rfl, (t.2 z).2.fl F rfl⟩⟩
  · refine ⟨rfl, rfl, ?_⟩
    refine s_mrest hn (by rw [a2.1]; exact a2.2) (n := n) (by rw [a3.1, en]) (by omega) (fun k hk => by
      have := lg k hk
      exact ⟨by constructor <;> omega, by constructor <;> omega⟩) r1 r2 r3 r4 (hA h rfl) (fun A' => absurd A' A) (fun _ => op_fin i rfl (by decide) FL.th rfl)
end OP6
