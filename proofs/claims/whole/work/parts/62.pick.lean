/-! the tape's cells: taken by the class, told by the reference -/
def tl (h : HI) (i : Int) : Int := band (h 2 i) 255
def pk1 (S : HI) (t : Int → Int) (fr : Int) (i : Nat) : Prop := (0 ≤ t i ∧ t i < S 0 3) ∧ 0 < tN S (t i) ∧ (∀ k : Nat, k < i → t k ≠ t i) ∧ (fr ≠ 0 → S 8 (t i) = -1)
def pk (S : HI) (t : Int → Int) (fr : Int) (n : Nat) : Prop := ∀ i : Nat, i < n → pk1 S t fr i
def LPk : List (Nat × Int) := [(1, 1), (51, -1), (40, 0), (41, -1), (42, -1), (43, -1), (44, -1), (45, -1), (46, -1), (47, -1), (48, -1), (49, -1), (50, -1)]
theorem tl_bd {h : HI} (t : tpI h) {i : Int} (h0 : 0 ≤ i) (h1 : i < 540) : 0 ≤ tl h i ∧ tl h i ≤ 255 := band255 (t.2.2.2 i h0 h1).2
section PICK
variable {l : Launch} {D : Nat} {ζ : ZP} {h : HI} {Q : Int → HI → Prop} {QV : HI → Prop} {c x lo hi fr : Int}
theorem s_at (hn : 144 ≤ ζ.2.2.2.2) (h0 : 0 ≤ x ∧ x < 540) (hq : Q (band (h 2 x) 255) h) : RtI l (D + 1) mX7_at (zz ζ) [aP 1, aI x] h Q := by
  refine e_X7_at hn ⟨by constructor <;> omega, iteN (by omega) (iteN (by omega) ⟨h0, hq⟩)⟩
theorem s_pick (i : Inv ζ h) (hfr : fr = 0 ∨ fr = 1) (hlo : 1 ≤ lo ∧ lo ≤ 60) (hhi : lo ≤ hi ∧ hi ≤ 60) (hy : (lo ≤ h 1 1 ∧ h 1 1 ≤ hi) → pk (stk 3 h) (tl h) fr (h 1 1).toNat → ∀ h', FL LPk h h' → h' 1 1 = 0 → trI h' → tX (stk 3 h) h' → (∀ j : Int, 0 ≤ j → j < h 1 1 → h' 51 j = tl h j) → Q (h 1 1) h') (hz : ¬ ((lo ≤ h 1 1 ∧ h 1 1 ≤ hi) ∧ pk (stk 3 h) (tl h) fr (h 1 1).toNat) → ∀ h', FL LPk h h' → h' 1 1 = 0 → trI h' → Q (-1) h') : RtI l (D + 6) mX11_pickCells (zz ζ) [aP 0, aI lo, aI hi, aI fr] h Q := by
  have hn := ζok_n i.1.1
  have tp : tpI h := i.1.2 0
  have sr : SR (stk 3 h) (h 99) (h 101) := i.1.2 2
  have ok := sr.2.2.1.2.1
  have a2 : 0 ≤ h 3 3 ∧ h 3 3 ≤ 60 := ⟨sr.2.1.1.1, sr.2.1.1.2.1⟩
  have t1 := tp.1
  have t2 := tp.2.1
  have f0 : FL [(1, 1)] h (hu h 1 1 0) := FL.refl.u rfl
  have i0 : trI (hu h 1 1 0) := i.2.fl f0 rfl
  refine e_X11_pickCells hn (s_within hn (by constructor <;> omega) (by constructor <;> omega) (by constructor <;> omega) ?_)
  by_cases c0 : lo ≤ h 1 1 ∧ h 1 1 ≤ hi
  rotate_left
  · rw [if_neg c0]
    exact ⟨by decide, iteN (by decide) (hz (fun a => c0 a.1) _ (f0.mono rfl) (by simp [hu]) i0)⟩
  rw [if_pos c0]
  have es0 : stk 3 (hu h 1 1 0) = stk 3 h := stk_fl (fun k hk => hu_c _ _ _ (by omega))
  have tdx : TDX (td (stk 3 h)) (hu h 1 1 0) := by
    have a0 : 0 ≤ h 4 3 := sr.1.1.1
    have a3 : 0 ≤ h 3 5 := sr.2.2.1.1.1
    refine TDX.fl (L := [(1, 1)]) (h := h) ⟨rfl, rfl, rfl, rfl, (Int.toNat_of_nonneg a3).symm, (Int.toNat_of_nonneg a2.1).symm, (Int.toNat_of_nonneg a0).symm⟩ f0 rfl
  refine ⟨by decide, iteP (by decide) (s_refresh hn ok tdx ?_ ?_ (fun g f z ts tw => ?_))⟩
  · rcases i0.1 with e | e <;> rw [e] <;> decide
  · have := i0.2
    rw [es0] at this
    exact this
  have F0 : FL LPk h g := (f0.mono rfl).trans (f.mono rfl)
  have w := tX_of ok tw
  have tri : ∀ g', FL [(51, -1)] g g' → trI g' := by
    intro g' f'
    have es : stk 3 g' = stk 3 h := by
      rw [← es0]
      refine stk_fl (fun k hk => ?_)
      rw [f'.c (3 + k) (by simp only [inC, List.any_cons, List.any_nil, Bool.or_false, beq_eq_false_iff_ne]; omega)]
      refine f.c (3 + k) ?_
      simp only [inC, List.any_cons, List.any_nil, Bool.or_false, Bool.or_eq_false_iff, beq_eq_false_iff_ne]
      omega
    refine ⟨Or.inl (by rw [f'.at 40 0 rfl]; exact z), fun _ => ?_⟩
    rw [es]
    exact ⟨ts.fl f' rfl, tw.fl f' rfl⟩
  obtain ⟨n, en⟩ : ∃ n : Nat, h 1 1 = n := ⟨(h 1 1).toNat, by omega⟩
  have en' : (h 1 1).toNat = n := by omega
  have z11 : ∀ g', FL [(51, -1)] g g' → g' 1 1 = 0 := fun g' f' => by rw [f'.at 1 1 rfl, f.at 1 1 rfl]; simp [hu]
  have main : ∀ (m k : Nat) (s : Nat) (g' : HI), k + m = n → s < 2 ^ 60 → FL [(51, -1)] g g' → pk (stk 3 h) (tl h) fr k → (∀ c : Nat, c < 60 → (s.testBit c = true ↔ ∃ j : Nat, j < k ∧ tl h j = c)) → (∀ j : Int, 0 ≤ j → j < k → g' 51 j = tl h j) → G l (D + 6) 0 0 mX11_pickCells (zz ζ) 46 [aP 0, aU, aU, aI fr, aI n, aL s, aU, aI k, aU] [] g' (qI (zz ζ) Q) := by
    intro m
    induction m with
    | zero =>
      intro k s g' hk hs f' pkk hb hp
      have : k = n := by omega
      subst this
      refine b_X11_pickCells_46 hn ⟨by constructor <;> omega, by constructor <;> omega, iteP (by omega) ?_⟩
      have := hy c0 (by rw [en']; exact pkk) g' (F0.trans (f'.mono rfl)) (z11 g' f') (tri g' f') (w.fl f' rfl) (by rw [en]; exact hp)
      rw [en] at this
      exact this
    | succ m ih =>
      intro k s g' hk hs f' pkk hb hp
      have w' := w.fl f' rfl
      have tb := tl_bd tp (i := k) (by omega) (by omega)
      have e2 : g' 2 = h 2 := by rw [f'.c 2 rfl, F0.c 2 rfl]
      have e33 : g' 3 3 = h 3 3 := by rw [f'.at 3 3 rfl, F0.at 3 3 rfl]
      have e11 : g' 11 = h 11 := by rw [f'.c 11 rfl, F0.c 11 rfl]
      have bad : ¬ pk1 (stk 3 h) (tl h) fr k → Q (-1) g' := fun no => hz (fun a => no (a.2 k (by omega))) g' (F0.trans (f'.mono rfl)) (z11 g' f') (tri g' f')
      refine b_X11_pickCells_46 hn ⟨by constructor <;> omega, by constructor <;> omega, iteN (by omega) (s_at hn ⟨by omega, by omega⟩ ?_)⟩
      rw [e2, show band (h 2 k) 255 = tl h k from rfl]
      refine s_hasCell hn (by constructor <;> omega) (by rw [e33]; constructor <;> omega) ?_
      rw [e33]
      by_cases c1 : 0 ≤ tl h k ∧ tl h k ≤ h 3 3 - 1
      rotate_left
      · rw [if_neg c1]
        exact ⟨by decide, iteP rfl (bad (fun a => c1 ⟨a.1.1, by have : tl h k < h 3 3 := a.1.2; omega⟩))⟩
      rw [if_pos c1]
      obtain ⟨r, hr⟩ : ∃ r : Nat, tl h k = r := ⟨(tl h k).toNat, by omega⟩
      have r60 : r < 60 := by omega
      have tb1 := tb64 (a := s) (k := r) (Nat.lt_of_lt_of_le hs (by decide)) (by omega)
      rw [hr, tb1]
      refine ⟨by decide, iteN (by decide) ⟨by split <;> decide, iteI (fun y => bad (fun a => ?_)) (fun y => ?_)⟩⟩
      · have sb : s.testBit r = true := by
          cases e : s.testBit r with
          | true => rfl
          | false => rw [e] at y; exact absurd rfl y
        obtain ⟨j, j1, j2⟩ := (hb r r60).mp sb
        exact a.2.2.1 j j1 (by rw [j2, hr])
      · have sb : s.testBit r = false := by
          cases e : s.testBit r with
          | false => rfl
          | true => rw [e] at y; simp at y
        have wr := w' r (by omega) (by omega)
        have bv := tv_bd ok r
        refine s_has hn ⟨by omega, by omega⟩ (by rw [wr.1]; constructor <;> omega) ?_
        rw [wr.1]
        by_cases c2 : tN (stk 3 h) r ≤ 0
        · rw [if_pos c2]
          exact ⟨by decide, iteN (by decide) (bad (fun a => by have := a.2.1; rw [hr] at this; omega))⟩
        rw [if_neg c2]
        have new : ∀ j : Nat, j < k → tl h j ≠ tl h k := fun j hj e => by
          have := (hb r r60).mpr ⟨j, hj, by rw [e, hr]⟩
          rw [sb] at this; cases this
        have go : (fr ≠ 0 → h 11 r = -1) → G l (D + 6) 0 0 mX11_pickCells (zz ζ) 46 [aP 0, aU, aU, aI fr, aI n, aL (lbor s (lbshl 1 r)), aU, aI ((k : Int) + 1), aU] [] (hu g' 51 k r) (qI (zz ζ) Q) := by
          intro hf
          have lt : (2 : Nat) ^ r < 2 ^ 60 := Nat.pow_lt_pow_right (by decide) r60
          rw [lbshl_1 r (by omega), lbor_nat (Nat.lt_of_lt_of_le hs (by decide)) (Nat.lt_of_lt_of_le lt (by decide))]
          have k' := ih (k + 1) (s ||| 2 ^ r) (hu g' 51 k r) (by omega) (Nat.or_lt_two_pow hs lt) (f'.ua rfl) (fun j hj => ?_) (fun c hc => ?_) (fun j j0 j1 => ?_)
          · rw [show ((k + 1 : Nat) : Int) = (k : Int) + 1 by omega] at k'
            exact k'
          · by_cases e : j = k
            · subst e
              refine ⟨⟨c1.1, by show tl h j < h 3 3; omega⟩, by rw [hr]; omega, new, fun q => ?_⟩
              show h 11 (tl h j) = -1
              rw [hr]; exact hf q
            · exact pkk j (by omega)
          · rw [or_pow_tb]
            constructor
            · intro q
              rw [Bool.or_eq_true] at q
              rcases q with q | q
              · obtain ⟨j, j1, j2⟩ := (hb c hc).mp q
                exact ⟨j, by omega, j2⟩
              · have := of_decide_eq_true q
                exact ⟨k, by omega, by rw [hr, this]⟩
            · intro ⟨j, j1, j2⟩
              rw [Bool.or_eq_true]
              by_cases e : j = k
              · subst e
                right
                exact decide_eq_true (by omega)
              · left
                exact (hb c hc).mpr ⟨j, by omega, j2⟩
          · by_cases e : j = k
            · rw [e, hu_s, hr]
            · rw [hu_j _ _ _ e]; exact hp j j0 (by omega)
        refine ⟨by decide, iteP (by decide) ⟨by rcases hfr with e | e <;> rw [e] <;> decide, iteI (fun y1 => ⟨⟨by omega, by omega⟩, go (fun q => absurd y1 q)⟩) (fun y1 => ⟨⟨by omega, by omega⟩, ?_, ?_⟩)⟩⟩
        · have sp := sr.2.2.2.2.1.2.2.2.1 r (by omega) (by show (r : Int) < h 3 3; omega)
          have s1 : -1 ≤ h 11 r ∧ h 11 r < h 10 0 := ⟨sp.1, sp.2.1⟩
          have s2 : h 10 0 ≤ 10 := sr.2.2.2.2.1.1.2.1
          rw [e11]; constructor <;> omega
        · rw [e11]
          refine iteI (fun y2 => ⟨⟨by omega, by omega⟩, go (fun _ => y2)⟩) (fun y2 => bad (fun a => y2 ?_))
          have : h 11 (tl h k) = -1 := a.2.2.2 y1
          rwa [hr] at this
  rw [en]
  have m0 := main n 0 0 g (by omega) (by decide) FL.refl (fun j hj => absurd hj (by omega)) (fun c hc => by simp) (fun j j0 j1 => absurd j1 (by omega))
  exact m0
theorem s_tells (i : Inv ζ h) {g : HI} (e99 : g 99 = h 99) (e98 : g 98 = h 98) (n3 : g 97 3 = h 1 1) (hlo : 1 ≤ lo ∧ lo ≤ 60) (hhi : lo ≤ hi ∧ hi ≤ 60) (hy : (lo ≤ h 1 1 ∧ h 1 1 ≤ hi) → pk (stk 3 h) (tl h) 0 (h 1 1).toNat → ∀ h', FL ((97, 43) :: (114, -1) :: LM) g h' → h' 97 43 = h 1 1 → tM (stk 3 h) h' → (∀ j : Int, 0 ≤ j → j < h 1 1 → h' 114 j = tl h j) → Q 1 h') (hz : ¬ ((lo ≤ h 1 1 ∧ h 1 1 ≤ hi) ∧ pk (stk 3 h) (tl h) 0 (h 1 1).toNat) → ∀ h', FL ((97, 43) :: (114, -1) :: LM) g h' → Q 0 h') : RtI l (D + 6) mX12_tells (zz ζ) [aP 97, aI lo, aI hi] g Q := by
  have hn := ζok_n i.1.1
  have tp : tpI h := i.1.2 0
  have sr : SR (stk 3 h) (h 99) (h 101) := i.1.2 2
  have ok := sr.2.2.1.2.1
  have a2 : h 99 11 = h 3 3 ∧ 0 ≤ h 3 3 ∧ h 3 3 ≤ 60 := ⟨sr.2.1.1.2.2, sr.2.1.1.1, sr.2.1.1.2.1⟩
  have t1 := tp.1
  have t2 := tp.2.1
  refine e_X12_tells hn ?_
  rw [n3]
  refine s_isIn hn (by constructor <;> omega) (by constructor <;> omega) (by constructor <;> omega) ?_
  by_cases c0 : lo ≤ h 1 1 ∧ h 1 1 ≤ hi
  rotate_left
  · rw [if_neg c0]
    exact ⟨by decide, iteN (by decide) (hz (fun a => c0 a.1) g FL.refl)⟩
  rw [if_pos c0]
  refine ⟨by decide, iteP (by decide) (i_settle i e99 (fun k fm ts wm => ?_))⟩
  have F0 : FL ((97, 43) :: (114, -1) :: LM) g (hu k 97 43 (k 97 3)) := (fm.mono rfl).u rfl
  obtain ⟨n, en⟩ : ∃ n : Nat, h 1 1 = n := ⟨(h 1 1).toNat, by omega⟩
  have en' : (h 1 1).toNat = n := by omega
  have k43 : (hu k 97 43 (k 97 3)) 97 43 = h 1 1 := by rw [hu_s, fm.at 97 3 rfl, n3]
  have w0 : tM (stk 3 h) (hu k 97 43 (k 97 3)) := wm.fl (FL.refl.u rfl : FL [(97, 43)] k _) rfl
  generalize hu k 97 43 (k 97 3) = b at F0 k43 w0 ⊢
  have main : ∀ (m q : Nat) (g' : HI), q + m = n → FL [(114, -1)] b g' → pk (stk 3 h) (tl h) 0 q → (∀ j : Int, 0 ≤ j → j < q → g' 114 j = tl h j) → G l (D + 6) 0 0 mX12_tells (zz ζ) 28 [aP 97, aU, aU, aI q, aU] [] g' (qI (zz ζ) Q) := by
    intro m
    induction m with
    | zero =>
      intro q g' hk f' pkk hp
      have : q = n := by omega
      subst this
      have e3 : g' 97 3 = h 1 1 := by rw [f'.at 97 3 rfl, F0.at 97 3 rfl, n3]
      refine b_X12_tells_28 hn ⟨by constructor <;> omega, by rw [e3]; constructor <;> omega, iteP (by rw [e3]; omega) ?_⟩
      exact hy c0 (by rw [en']; exact pkk) g' (F0.trans (f'.mono rfl)) (by rw [f'.at 97 43 rfl]; exact k43) (w0.fl f' rfl) (by rw [en]; exact hp)
    | succ m ih =>
      intro q g' hk f' pkk hp
      have e3 : g' 97 3 = h 1 1 := by rw [f'.at 97 3 rfl, F0.at 97 3 rfl, n3]
      have tb := tl_bd tp (i := q) (by omega) (by omega)
      have tt := (tp.2.2.2 q (by omega) (by omega)).1
      have e98' : g' 98 q = h 2 q := by rw [f'.c 98 rfl, F0.c 98 rfl, e98]; exact tt
      refine b_X12_tells_28 hn ⟨by constructor <;> omega, by rw [e3]; constructor <;> omega, iteN (by rw [e3]; omega) (e_X12_octet hn ⟨⟨by omega, by omega⟩, ⟨by omega, by omega⟩, ?_⟩)⟩
      rw [e98', show band (h 2 q) 255 = tl h q from rfl, hu_s]
      have f1 : FL [(114, -1)] b (hu g' 114 q (tl h q)) := f'.ua rfl
      have w1 := w0.fl f1 rfl
      have p1 : ∀ j : Int, 0 ≤ j → j < (q : Int) + 1 → hu g' 114 q (tl h q) 114 j = tl h j := by
        intro j j0 j1
        by_cases e : j = q
        · rw [e, hu_s]
        · rw [hu_j _ _ _ e]; exact hp j j0 (by omega)
      have e99' : hu g' 114 q (tl h q) 99 = h 99 := by rw [f1.c 99 rfl, F0.c 99 rfl, e99]
      generalize hu g' 114 q (tl h q) = g1 at f1 w1 p1 e99' ⊢
      have bad : ¬ pk1 (stk 3 h) (tl h) 0 q → Q 0 g1 := fun no => hz (fun a => no (a.2 q (by omega))) g1 (F0.trans (f1.mono rfl))
      refine s_isCell hn (by constructor <;> omega) (by rw [e99', a2.1]; constructor <;> omega) ?_
      rw [e99', a2.1]
      by_cases c1 : 0 ≤ tl h q ∧ tl h q ≤ h 3 3 - 1
      rotate_left
      · rw [if_neg c1]
        exact ⟨by decide, iteP rfl (bad (fun a => c1 ⟨a.1.1, by have : tl h q < h 3 3 := a.1.2; omega⟩))⟩
      rw [if_pos c1, p1 q (by omega) (by omega)]
      have wr := w1 (tl h q) c1.1 (by show tl h q < h 3 3; omega)
      have bv := tv_bd ok (tl h q)
      rw [wr.1]
      refine ⟨by decide, iteN (by decide) ⟨⟨by omega, by omega⟩, by constructor <;> omega, iteI (fun y => ?_) (fun y => bad (fun a => by have := a.2.1; omega))⟩⟩
      have inner : ∀ (d j : Nat), j + d = q → (∀ t : Nat, t < j → tl h t ≠ tl h q) → G l (D + 6) 0 0 mX12_tells (zz ζ) 79 [aP 97, aU, aU, aI q, aI j] [] g1 (qI (zz ζ) Q) := by
        intro d
        induction d with
        | zero =>
          intro j hj hd
          have : j = q := by omega
          subst this
          refine b_X12_tells_79 hn ⟨by constructor <;> omega, by constructor <;> omega, iteP (by omega) ?_⟩
          have k' := ih (j + 1) g1 (by omega) f1 (fun t ht => ?_) (fun t t0 t1 => p1 t t0 (by omega))
          · rw [show ((j + 1 : Nat) : Int) = (j : Int) + 1 by omega] at k'
            exact k'
          · by_cases e : t = j
            · subst e
              exact ⟨⟨c1.1, by show tl h t < h 3 3; omega⟩, by omega, hd, fun z => absurd rfl z⟩
            · exact pkk t (by omega)
        | succ d ihd =>
          intro j hj hd
          have tbj := tl_bd tp (i := j) (by omega) (by omega)
          refine b_X12_tells_79 hn ⟨by constructor <;> omega, by constructor <;> omega, iteN (by omega) ?_⟩
          rw [p1 j (by omega) (by omega), p1 q (by omega) (by omega)]
          refine ⟨⟨by omega, by omega⟩, ⟨by omega, by omega⟩, by constructor <;> omega, by constructor <;> omega, iteI (fun u => ?_) (fun u => bad (fun a => a.2.2.1 j (by omega) (by omega)))⟩
          have k' := ihd (j + 1) (by omega) (fun t ht => by
            by_cases e : t = j
            · rw [e]; exact u
            · exact hd t (by omega))
          rw [show ((j + 1 : Nat) : Int) = (j : Int) + 1 by omega] at k'
          exact k'
      exact inner q 0 (by omega) (fun t ht => absurd ht (by omega))
  exact main n 0 b (by omega) FL.refl (fun j hj => absurd hj (by omega)) (fun j j0 j1 => absurd j1 (by omega))
end PICK
