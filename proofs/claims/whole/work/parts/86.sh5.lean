/-! share: the call -/
section SH5
variable {l : Launch} {D : Nat} {ζ : ZP} {h : HI} {Q : Int → HI → Prop} {QV : HI → Prop} {x : Int}
def shG (h : HI) (x : Int) : Prop := (1 ≤ h 1 1 ∧ h 1 1 ≤ 9) ∧ (1 ≤ x ∧ x ≤ 4) ∧ ∀ j : Int, 0 ≤ j → j < h 1 1 → 1 ≤ tl h j ∧ tl h j ≤ 99
def shLT : List (Nat × Int) := [(97, 0), (97, 2), (97, 3), (97, 4), (97, 5)]
theorem s_shref (i : Inv ζ h) (rx : rg x) {g : HI} {LX : List (Nat × Int)} (fx : FL LX h g) (cx : (!inC LX 97 && !inC LX 98) = true) (hz : ¬ shG h x → ∀ k, FL shLT g k → k 97 2 = 0 → Q (-1) k) (hy : shG h x → ∀ L k, FL (shLT ++ shLM) g k → k 97 2 = 0 → k 97 58 = h 1 1 → shR (tl h) x.toNat (h 1 1).toNat L (k 124) → Q L k) : RtI l (D + 5) mX12_share (zz ζ) [aP 97, aI x] g Q := by
  have hn := ζok_n i.1.1
  have tp : tpI h := i.1.2 0
  simp only [Bool.and_eq_true, Bool.not_eq_true'] at cx
  have e97 : g 97 = h 97 := fx.c 97 cx.1
  have e98 : g 98 = h 98 := fx.c 98 cx.2
  have t1 := tp.1
  have t2 := tp.2.1
  refine e_X12_share hn (s_taken hn (fun g1 f1 a3 a2 a4 a5 => ?_))
  have F1 : FL shLT g g1 := (FL.refl.u rfl).trans (f1.mono rfl)
  have n3 : g1 97 3 = h 1 1 := by rw [a3, hu_j _ _ _ (by decide), e97]; exact tp.2.2.1
  have t98 : ∀ j : Int, 0 ≤ j → j < 540 → band (g1 98 j) 255 = tl h j := fun j j0 j1 => by
    rw [F1.c 98 rfl, e98, (tp.2.2.2 j j0 j1).1]; rfl
  refine s_isIn hn rx (by decide) (by decide) ?_
  by_cases q1 : 1 ≤ x ∧ x ≤ 4
  rotate_left
  · rw [if_neg q1]
    exact ⟨by decide, iteP rfl (hz (fun q => q1 q.2.1) g1 F1 a2)⟩
  rw [if_pos q1, n3]
  refine ⟨by decide, iteN (by decide) (s_isIn hn (by constructor <;> omega) (by decide) (by decide) ?_)⟩
  by_cases q2 : 1 ≤ h 1 1 ∧ h 1 1 ≤ 9
  rotate_left
  · rw [if_neg q2]
    exact ⟨by decide, iteN (by decide) (hz (fun q => q2 q.1) g1 F1 a2)⟩
  rw [if_pos q2]
  refine ⟨by decide, iteP (by decide) ?_⟩
  obtain ⟨n, en⟩ : ∃ n : Nat, h 1 1 = n := ⟨(h 1 1).toNat, by omega⟩
  obtain ⟨b, eb⟩ : ∃ b : Nat, x = b := ⟨x.toNat, by omega⟩
  have en' : (h 1 1).toNat = n := by omega
  have eb' : x.toNat = b := by omega
  rw [en] at n3
  have m38 : ∀ (m k : Nat), k + m = n → (∀ j : Int, 0 ≤ j → j < k → 1 ≤ tl h j ∧ tl h j ≤ 99) → G l (D + 5) 0 0 mX12_share (zz ζ) 38 [aP 97, aI x, aI k, aU, aU, aU, aU, aU, aU] [] g1 (qI (zz ζ) Q) := by
    intro m
    induction m with
    | zero =>
      intro k hk a
      have : k = n := by omega
      subst this
      refine b_X12_share_38 hn ⟨by constructor <;> omega, by rw [n3]; constructor <;> omega, iteP (by rw [n3]; omega) ?_⟩
      rw [eb]
      refine s_shM (t := tl h) hn (by omega) (by omega) (n := k) (by omega) (by omega) (fun j hj => by have := a j (by omega) (by omega); omega) n3 (fun j j0 j1 => t98 j j0 (by omega)) (fun L k' f' e58 R => ?_)
      refine hy ⟨q2, q1, fun j j0 j1 => a j j0 (by omega)⟩ L k' ((F1.mono rfl).trans (f'.mono rfl)) (by rw [f'.at 97 2 rfl]; exact a2) (by rw [e58, en]) (by rw [en', eb']; exact R)
    | succ m ih =>
      intro k hk a
      have tb := tl_bd tp (i := k) (by omega) (by omega)
      refine b_X12_share_38 hn ⟨by constructor <;> omega, by rw [n3]; constructor <;> omega, iteN (by rw [n3]; omega) (e_X12_octet hn ⟨⟨by omega, by omega⟩, ?_⟩)⟩
      rw [t98 k (by omega) (by omega)]
      refine s_isIn hn (by constructor <;> omega) (by decide) (by decide) ?_
      by_cases q3 : 1 ≤ tl h k ∧ tl h k ≤ 99
      · rw [if_pos q3]
        have kk := ih (k + 1) (by omega) (fun j j0 j1 => by
          by_cases e : j = k
          · rw [e]; exact q3
          · exact a j j0 (by omega))
        rw [show ((k + 1 : Nat) : Int) = (k : Int) + 1 by omega] at kk
        exact ⟨by decide, iteP (by decide) kk⟩
      · rw [if_neg q3]
        exact ⟨by decide, iteN (by decide) (hz (fun q => q3 (q.2.2 k (by omega) (by omega))) g1 F1 a2)⟩
  exact m38 n 0 (by omega) (fun j j0 j1 => by omega)
theorem op_share (i : Inv ζ h) (rx : rg x) : Op l (D + 60) ζ mX11_share mX12_share [aI x] h := by
  have hn := ζok_n i.1.1
  have tp : tpI h := i.1.2 0
  have t1 := tp.1
  have t2 := tp.2.1
  generalize hg : hu h 1 1 0 = g
  have fx : FL [(1, 1)] h g := by subst hg; exact FL.refl.u rfl
  have e11 : g 1 1 = 0 := by subst hg; exact hu_s _ _ _ _
  have no : ¬ shG h x → g 1000003 = h 1000003 ∧ g 1000004 = h 1000004 ∧ RtI l (D + 60) mX12_share (zz ζ) [aP 97, aI x] g (fun r2 h2 => rg (-1) ∧ rg r2 ∧ (-1 : Int) = r2 ∧ h2 1000003 = h 1000003 ∧ h2 1000004 = h 1000004 ∧ Inv ζ h2) := fun q => ⟨fx.c _ rfl, fx.c _ rfl, s_shref i rx fx rfl (fun _ k fk e2 => by
    have F : FL ((1, 1) :: shLT) h k := (fx.mono rfl).trans (fk.mono rfl)
    exact op_fin2 i rfl (by decide) F [0] rfl (new1 (tp0 tp F (by rw [fk.at 1 1 rfl]; exact e11) e2 rfl)) (i.2.fl F rfl)) (fun y => absurd y q)⟩
  refine e_X11_share hn ?_
  rw [hg]
  refine s_within hn (by constructor <;> omega) (by decide) (by decide) ?_
  by_cases q1 : 1 ≤ h 1 1 ∧ h 1 1 ≤ 9
  rotate_left
  · rw [if_neg q1]
    exact ⟨by decide, iteP rfl (no (fun q => q1 q.1))⟩
  rw [if_pos q1]
  refine ⟨by decide, iteN (by decide) (s_within hn rx (by decide) (by decide) ?_)⟩
  by_cases q2 : 1 ≤ x ∧ x ≤ 4
  rotate_left
  · rw [if_neg q2]
    exact ⟨by decide, iteN (by decide) (no (fun q => q2 q.2.1))⟩
  rw [if_pos q2]
  refine ⟨by decide, iteP (by decide) ?_⟩
  obtain ⟨n, en⟩ : ∃ n : Nat, h 1 1 = n := ⟨(h 1 1).toNat, by omega⟩
  obtain ⟨b, eb⟩ : ∃ b : Nat, x = b := ⟨x.toNat, by omega⟩
  have en' : (h 1 1).toNat = n := by omega
  have eb' : x.toNat = b := by omega
  have g2 : ∀ k : HI, k 2 = h 2 → ∀ j : Int, band (k 2 j) 255 = tl h j := fun k e j => by rw [e]; rfl
  rw [en]
  have m39 : ∀ (m k : Nat), k + m = n → (∀ j : Int, 0 ≤ j → j < k → 1 ≤ tl h j ∧ tl h j ≤ 99) → G l (D + 60) 0 0 mX11_share (zz ζ) 39 [aP 0, aI x, aI n, aI k] [] g (qI (zz ζ) (fun r1 h1 => h1 1000003 = h 1000003 ∧ h1 1000004 = h 1000004 ∧ RtI l (D + 60) mX12_share (zz ζ) [aP 97, aI x] h1 (fun r2 h2 => rg r1 ∧ rg r2 ∧ r1 = r2 ∧ h2 1000003 = h 1000003 ∧ h2 1000004 = h 1000004 ∧ Inv ζ h2))) := by
    intro m
    induction m with
    | zero =>
      intro k hk a
      have : k = n := by omega
      subst this
      have yes : shG h x := ⟨q1, q2, fun j j0 j1 => a j j0 (by omega)⟩
      refine b_X11_share_39 hn ⟨by constructor <;> omega, by constructor <;> omega, iteP (by omega) (e_X4_start hn ?_)⟩
      generalize hg1 : hu (hu g 70 0 k) 70 4 x = g1
      have f1 : FL [(70, 0), (70, 4)] g g1 := by subst hg1; exact (FL.refl.u rfl).u rfl
      have a0 : g1 70 0 = k := by subst hg1; rw [hu_j _ _ _ (by decide), hu_s]
      have a4 : g1 70 4 = x := by subst hg1; rw [hu_s]
      have m80 : ∀ (m q : Nat) (k1 : HI), q + m = k → FL [(71, -1)] g1 k1 → (∀ j : Int, 0 ≤ j → j < q → k1 71 j = tl h j) → G l (D + 60) 0 0 mX11_share (zz ζ) 80 [aP 0, aU, aI k, aI q] [] k1 (qI (zz ζ) (fun r1 h1 => h1 1000003 = h 1000003 ∧ h1 1000004 = h 1000004 ∧ RtI l (D + 60) mX12_share (zz ζ) [aP 97, aI x] h1 (fun r2 h2 => rg r1 ∧ rg r2 ∧ r1 = r2 ∧ h2 1000003 = h 1000003 ∧ h2 1000004 = h 1000004 ∧ Inv ζ h2))) := by
        intro m
        induction m with
        | zero =>
          intro q k1 hq f z
          refine b_X11_share_80 hn ⟨by constructor <;> omega, by constructor <;> omega, iteP (by omega) ?_⟩
          have tb : ∀ j : Nat, j < k → 0 ≤ tl h j ∧ tl h j ≤ 99 := fun j hj => by have := a j (by omega) (by omega); omega
          refine s_shfind (t := tl h) (b := b) (n := k) hn (by omega) (by omega) (by omega) tb (by rw [f.at 70 0 rfl]; exact a0) (by rw [f.at 70 4 rfl, a4]; exact eb) (fun j j0 j1 => z j j0 (by omega)) (fun g' f' R => ?_)
          have FX : FL [(1, 1), (70, 0), (70, 3), (70, 4), (70, 5), (71, -1), (72, -1), (73, -1), (74, -1)] h g' := (((fx.mono rfl).trans (f1.mono rfl)).trans (f.mono rfl)).trans (f'.mono rfl)
          refine ⟨FX.c _ rfl, FX.c _ rfl, s_shref i rx FX rfl (fun y => absurd yes y) (fun _ L k2 fk e2 e58 RM => ?_)⟩
          rw [en', eb'] at RM
          have U := shR_uniq R RM
          have vb : 0 ≤ L ∧ L ≤ 891 := by
            rw [← RM.2.1]
            have t0 := sm_bd (f := fun j : Nat => tl h j) (K := 0) (L := 99) (n := k) tb
            have v1 := vl_le (t := tl h) (w := k2 124) (b := b) (n := k) (by omega) (fun j hj => (tb j hj).1)
            have v2 := vl_ge (t := tl h) (b := b) (n := k) (by omega) RM.1
            have v3 : 0 ≤ (sm (fun j : Nat => tl h j) k + b - 1) / (b : Int) := Int.ediv_nonneg (by omega) (by omega)
            omega
          have F : FL ([(1, 1), (70, 0), (70, 3), (70, 4), (70, 5), (71, -1), (72, -1), (73, -1), (74, -1)] ++ (shLT ++ shLM)) h k2 := (FX.mono rfl).trans (fk.mono rfl)
          have k70 : k2 70 0 = k := by rw [fk.at 70 0 rfl, f'.at 70 0 rfl, f.at 70 0 rfl]; exact a0
          refine op_fin2 i U.1 (by rw [U.1]; constructor <;> omega) F [0, 5] rfl ?_ (i.2.fl F rfl)
          intro m hm
          simp only [List.mem_cons, List.not_mem_nil, or_false] at hm
          rcases hm with hm | hm
          · subst hm
            exact tp0 tp F (by rw [fk.at 1 1 rfl, f'.at 1 1 rfl, f.at 1 1 rfl, f1.at 1 1 rfl]; exact e11) e2 rfl
          · subst hm
            refine (show shI k2 from ⟨by omega, by omega, by rw [e58, k70, en], fun j j0 j1 => ?_⟩)
            have ej := U.2 j.toNat (by omega)
            rw [show ((j.toNat : Nat) : Int) = j by omega] at ej
            have cj := R.1 j.toNat (by omega)
            rw [show ((j.toNat : Nat) : Int) = j by omega] at cj
            rw [fk.c 72 rfl]
            exact ⟨ej.symm, by have := cj.1; have := cj.2.2; constructor <;> omega⟩
        | succ m ih =>
          intro q k1 hq f z
          refine b_X11_share_80 hn ⟨by constructor <;> omega, by constructor <;> omega, iteN (by omega) (s_at hn ⟨by omega, by omega⟩ ⟨⟨by omega, by omega⟩, ?_⟩)⟩
          rw [g2 k1 (by rw [f.c 2 rfl, f1.c 2 rfl, fx.c 2 rfl]) q]
          have kk := ih (q + 1) (hu k1 71 q (tl h q)) (by omega) (f.ua rfl) (fun j j0 j1 => by
            by_cases e : j = q
            · rw [e, hu_s]
            · rw [hu_j _ _ _ e]; exact z j j0 (by omega))
          rw [show ((q + 1 : Nat) : Int) = (q : Int) + 1 by omega] at kk
          exact kk
      exact m80 k 0 g1 (by omega) FL.refl (fun j j0 j1 => by omega)
    | succ m ih =>
      intro k hk a
      have tb := tl_bd tp (i := k) (by omega) (by omega)
      refine b_X11_share_39 hn ⟨by constructor <;> omega, by constructor <;> omega, iteN (by omega) (s_at hn ⟨by omega, by omega⟩ ?_)⟩
      rw [g2 g (fx.c 2 rfl) k]
      refine s_within hn (by constructor <;> omega) (by decide) (by decide) ?_
      by_cases q3 : 1 ≤ tl h k ∧ tl h k ≤ 99
      · rw [if_pos q3]
        have kk := ih (k + 1) (by omega) (fun j j0 j1 => by
          by_cases e : j = k
          · rw [e]; exact q3
          · exact a j j0 (by omega))
        rw [show ((k + 1 : Nat) : Int) = (k : Int) + 1 by omega] at kk
        exact ⟨by decide, iteP (by decide) kk⟩
      · rw [if_neg q3]
        exact ⟨by decide, iteN (by decide) (no (fun q => q3 (q.2.2 k (by omega) (by omega))))⟩
  exact m39 n 0 (by omega) (fun j j0 j1 => by omega)
end SH5
