/-! restore: the call -/
theorem SR_cp {u v : Nat} {h h' : HI} {s s' nm nm' s0 nm0 : Int → Int} (c : cpd u v h h') (i : SR (stk u h) s nm) (z : SR (stk v h) s0 nm0) (es : agS 0 2818 s s') (en : agS 6 13 nm nm') : SR (stk v h') s' nm' := by
  obtain ⟨_, cA, cN⟩ := c
  have A : ∀ (k : Nat) (n : Int), (k, n) ∈ cpA → k < 30 → agR n (stk u h k) (stk v h' k) := fun k n m hk j j0 j1 => by
    rw [stk_at _ _ hk, stk_at _ _ hk]; exact (cA _ m j).1 j0 j1
  have N : ∀ (k : Nat) (j : Int), (k, j) ∈ cpN → k < 30 → stk v h' k j = stk u h k j := fun k j m hk => by
    rw [stk_at _ _ hk, stk_at _ _ hk]; exact cN _ m
  have E : ∀ (a b : Int), 0 ≤ a → b ≤ 2818 → agS a b s s' := fun a b a0 b1 j j0 j1 => es j (by omega) (by omega)
  have ev : ∀ j : Int, 0 ≤ j → j ≤ 2818 → s' j = s j := es
  have F : ∀ k : Nat, (k, (200 : Int)) ∈ cpA → k < 30 → (∀ j : Int, j < 0 ∨ 200 ≤ j → stk u h k j = 0 ∧ stk v h k j = 0) → stk v h' k = stk u h k := by
    intro k m hk zz
    funext j
    by_cases e : 0 ≤ j ∧ j < 200
    · exact A k 200 m hk j e.1 e.2
    · have q := zz j (by omega)
      rw [q.1, stk_at _ _ hk]
      have := (cA _ m j).2 (by simp only; omega)
      simp only at this
      rw [this]
      have q2 := q.2
      rw [stk_at _ _ hk] at q2
      exact q2
  obtain ⟨ia, ic, ir, is, ip, iu⟩ := i
  have zr := z.2.2.1.2.2.2
  have e20 := F 20 (by decide) (by decide) (fun j hj => ⟨(ir.2.2.2 j hj).1, (zr j hj).1⟩)
  have e21 := F 21 (by decide) (by decide) (fun j hj => ⟨(ir.2.2.2 j hj).2.1, (zr j hj).2.1⟩)
  have e22 := F 22 (by decide) (by decide) (fun j hj => ⟨(ir.2.2.2 j hj).2.2.1, (zr j hj).2.2.1⟩)
  have e23 := F 23 (by decide) (by decide) (fun j hj => ⟨(ir.2.2.2 j hj).2.2.2, (zr j hj).2.2.2⟩)
  have n13 := N 1 3 (by decide) (by decide)
  have n14 := N 1 4 (by decide) (by decide)
  have n03 := N 0 3 (by decide) (by decide)
  have n05 := N 0 5 (by decide) (by decide)
  have n010 := N 0 10 (by decide) (by decide)
  have et : td (stk v h') = td (stk u h) := td_eq e20 e21 e22 e23 n05 n03 n13
  have c60 := ic.1.2.1
  refine ⟨ia.to n13 n14 (A 3 8 (by decide) (by decide)) (A 4 9 (by decide) (by decide)) (E 0 10 (by decide) (by decide)) en, ic.to n03 n14 (A 19 60 (by decide) (by decide)) (ev 11 (by decide) (by decide)) (E 17 76 (by decide) (by decide)), ir.to e20 e21 e22 e23 n05 n03 n13 (ev 12 (by decide) (by decide)) (E 77 876 (by decide) (by decide)), is.to n010 n03 (A 24 60 (by decide) (by decide)) (A 25 60 (by decide) (by decide)) (A 26 60 (by decide) (by decide)) (A 27 60 (by decide) (by decide)) (A 28 60 (by decide) (by decide)) (A 29 60 (by decide) (by decide)) c60 (ev 9 (by decide) (by decide)) (ev 10 (by decide) (by decide)) (ev 13 (by decide) (by decide)) (E 877 1676 (by decide) (by decide)), ?_, iu.to (N 5 1 (by decide) (by decide)) (N 5 2 (by decide) (by decide)) (A 6 40 (by decide) (by decide)) (ev 16 (by decide) (by decide)) (E 2627 2818 (by decide) (by decide))⟩
  refine ip.to (N 7 0 (by decide) (by decide)) (N 7 7 (by decide) (by decide)) c60 (by rw [n03]; exact Int.le_refl _) (fun c c0 c1 => by rw [n03] at c1; omega) (fun c c0 c1 => A 8 60 (by decide) (by decide) c c0 (by omega)) (A 9 400 (by decide) (by decide)) (A 10 10 (by decide) (by decide)) (A 11 10 (by decide) (by decide)) (A 12 10 (by decide) (by decide)) (A 13 10 (by decide) (by decide)) (A 14 30 (by decide) (by decide)) (A 15 30 (by decide) (by decide)) (A 16 30 (by decide) (by decide)) (A 17 30 (by decide) (by decide)) (fun c q => by rw [et]; exact q) (ev 14 (by decide) (by decide)) (ev 15 (by decide) (by decide)) (E 1677 2626 (by decide) (by decide))
section RE2
variable {l : Launch} {D : Nat} {ζ : ZP} {h : HI} {Q : Int → HI → Prop} {QV : HI → Prop} {x : Int}
/-- the reference's copies -/
theorem s_mcpIn (hn : 144 ≤ ζ.2.2.2.2) (hx : 0 ≤ x ∧ x < 2) (hq : ∀ k, FL [(99, -1), (101, -1)] h k → (∀ j : Int, 0 ≤ j → j < 2819 → k 99 j = h 140 (2819 * x + j)) → (∀ j : Int, 0 ≤ j → j < 14 → k 101 j = h 141 (14 * x + j)) → Q 1 k) : G l (D + 1) 0 0 mX12_restore (zz ζ) 27 [aP 97, aI x, aI 0] [] h (qI (zz ζ) Q) := by
  have m60 : ∀ (m q : Nat) (k : HI), q + m = 14 → FL [(99, -1), (101, -1)] h k → (∀ j : Int, 0 ≤ j → j < 2819 → k 99 j = h 140 (2819 * x + j)) → (∀ j : Int, 0 ≤ j → j < q → k 101 j = h 141 (14 * x + j)) → G l (D + 1) 0 0 mX12_restore (zz ζ) 60 [aP 97, aI x, aI q] [] k (qI (zz ζ) Q) := by
    intro m
    induction m with
    | zero =>
      intro q k hm f a b
      exact b_X12_restore_60 hn ⟨by constructor <;> omega, iteP (by omega) (hq k f a (fun j j0 j1 => b j j0 (by omega)))⟩
    | succ m ih =>
      intro q k hm f a b
      refine b_X12_restore_60 hn ⟨by constructor <;> omega, iteN (by omega) ⟨⟨by omega, by omega⟩, ⟨by omega, by omega⟩, ?_⟩⟩
      rw [f.c 141 rfl]
      have kk := ih (q + 1) (hu k 101 q (h 141 (14 * x + q))) (by omega) (f.ua rfl) (by rw [hu_c _ _ _ (by decide)]; exact a) (fun j j0 j1 => by
        by_cases e : j = q
        · rw [e, hu_s]
        · rw [hu_j _ _ _ e]; exact b j j0 (by omega))
      rw [show ((q + 1 : Nat) : Int) = (q : Int) + 1 by omega] at kk
      exact kk
  have m27 : ∀ (m q : Nat) (k : HI), q + m = 2819 → FL [(99, -1), (101, -1)] h k → (∀ j : Int, 0 ≤ j → j < q → k 99 j = h 140 (2819 * x + j)) → G l (D + 1) 0 0 mX12_restore (zz ζ) 27 [aP 97, aI x, aI q] [] k (qI (zz ζ) Q) := by
    intro m
    induction m with
    | zero =>
      intro q k hm f a
      exact b_X12_restore_27 hn ⟨by constructor <;> omega, iteP (by omega) (m60 14 0 k (by omega) f (fun j j0 j1 => a j j0 (by omega)) (fun j j0 j1 => by omega))⟩
    | succ m ih =>
      intro q k hm f a
      refine b_X12_restore_27 hn ⟨by constructor <;> omega, iteN (by omega) ⟨⟨by omega, by omega⟩, ⟨by omega, by omega⟩, ?_⟩⟩
      rw [f.c 140 rfl]
      have kk := ih (q + 1) (hu k 99 q (h 140 (2819 * x + q))) (by omega) (f.ua rfl) (fun j j0 j1 => by
        by_cases e : j = q
        · rw [e, hu_s]
        · rw [hu_j _ _ _ e]; exact a j j0 (by omega))
      rw [show ((q + 1 : Nat) : Int) = (q : Int) + 1 by omega] at kk
      exact kk
  exact m27 2819 0 h (by omega) FL.refl (fun j j0 j1 => by omega)
theorem op_restore (i : Inv ζ h) (rx : rg x) : Op l (D + 60) ζ mX11_restore mX12_restore [aI x] h := by
  have hn := ζok_n i.1.1
  have im : imI ζ h := i.1.2 11
  have sr : SR (stk 3 h) (h 99) (h 101) := i.1.2 2
  -- nothing there
  have no : (∀ y : 0 ≤ x ∧ x < 2, h 142 x = 0) → h 1000003 = h 1000003 ∧ h 1000004 = h 1000004 ∧ RtI l (D + 60) mX12_restore (zz ζ) [aP 97, aI x] h (fun r2 h2 => rg 0 ∧ rg r2 ∧ (0 : Int) = r2 ∧ h2 1000003 = h 1000003 ∧ h2 1000004 = h 1000004 ∧ Inv ζ h2) := by
    intro q
    have F : FL [(97, 0)] h (hu h 97 0 0) := FL.refl.u rfl
    have fin : rg 0 ∧ rg 0 ∧ (0 : Int) = 0 ∧ (hu h 97 0 0) 1000003 = h 1000003 ∧ (hu h 97 0 0) 1000004 = h 1000004 ∧ Inv ζ (hu h 97 0 0) := op_fin2 i rfl (by decide) F [] rfl (fun m hm => absurd hm (by simp)) (i.2.fl F rfl)
    refine ⟨rfl, rfl, e_X12_restore hn (s_isIn hn rx (by decide) (by decide) ?_)⟩
    by_cases y : 0 ≤ x ∧ x ≤ 1
    · rw [if_pos y, F.c 142 rfl, q ⟨y.1, by omega⟩]
      exact ⟨by decide, iteN (by decide) ⟨⟨y.1, by omega⟩, by decide, iteN (by decide) fin⟩⟩
    · rw [if_neg y]
      exact ⟨by decide, iteP rfl fin⟩
  have yes : ∀ u : Nat, isU u → u + 30 ≤ ζ.2.2.2.2 → (0 ≤ x ∧ x < 2) → h 142 x = 1 → SR (stk u h) (fun j => h 140 (2819 * x + j)) (fun j => h 141 (14 * x + j)) → ∀ g0, cpd u 3 h g0 → (hu g0 40 0 1) 1000003 = h 1000003 ∧ (hu g0 40 0 1) 1000004 = h 1000004 ∧ RtI l (D + 60) mX12_restore (zz ζ) [aP 97, aI x] (hu g0 40 0 1) (fun r2 h2 => rg 1 ∧ rg r2 ∧ (1 : Int) = r2 ∧ h2 1000003 = h 1000003 ∧ h2 1000004 = h 1000004 ∧ Inv ζ h2) := by
    intro u hu0 hun y e142 si g0 c
    have F0 : FL ((40, 0) :: (List.range 30).map (fun k => (3 + k, -1))) h (hu g0 40 0 1) := (c.1.mono rfl).u rfl
    have F1 : FL ((97, 0) :: (40, 0) :: (List.range 30).map (fun k => (3 + k, -1))) h (hu (hu g0 40 0 1) 97 0 0) := (F0.mono rfl).u rfl
    refine ⟨F0.c _ rfl, F0.c _ rfl, e_X12_restore hn (s_isIn hn rx (by decide) (by decide) ?_)⟩
    rw [if_pos ⟨y.1, by omega⟩, F1.c 142 rfl, e142]
    refine ⟨by decide, iteN (by decide) ⟨y, by decide, iteP (by decide) (s_mcpIn hn y (fun k f a b => ?_))⟩⟩
    have F : FL ((99, -1) :: (101, -1) :: (97, 0) :: (40, 0) :: (List.range 30).map (fun k => (3 + k, -1))) h k := (F1.mono rfl).trans (f.mono rfl)
    have k40 : k 40 0 = 1 := by rw [f.at 40 0 rfl, hu_c _ _ _ (by decide), hu_s]
    refine op_fin2 i rfl (by decide) F [2] rfl (new1 ?_) ⟨Or.inr k40, fun q => by rw [k40] at q; cases q⟩
    show SR (stk 3 k) (k 99) (k 101)
    have e3 : stk 3 k = stk 3 g0 := stk_fl (fun q hq => by
      rw [f.c (3 + q) (by simp [inC]; omega), hu_c _ _ _ (by omega), hu_c _ _ _ (by omega)])
    rw [e3]
    rw [F1.c 140 rfl] at a
    rw [F1.c 141 rfl] at b
    exact SR_cp c si sr (fun j j0 j1 => a j j0 (by omega)) (fun j j0 j1 => b j (by omega) (by omega))
  by_cases y : 0 ≤ x ∧ x ≤ 1
  rotate_left
  · refine e_X11_restore (o := none) hn (fun q => absurd ⟨q.1, by omega⟩ y) (s_within hn rx (by decide) (by decide) ?_)
    rw [if_neg y]
    exact ⟨by decide, iteP rfl (no (fun q => absurd ⟨q.1, by omega⟩ y))⟩
  have both : ∀ (o : Option Nat) (k : Nat), x = k → (ζ.2.2.1 = o ∨ ζ.2.2.2.1 = o) → (zz ζ).1 33 x.toNat = o → im1 o k h → Op l (D + 60) ζ mX11_restore mX12_restore [aI x] h := by
    intro o k ek ho hr hi
    refine e_X11_restore (o := o) hn (fun _ => hr) (s_within hn rx (by decide) (by decide) ?_)
    rw [if_pos y]
    refine ⟨by decide, iteN (by decide) ⟨⟨y.1, by omega⟩, ?_⟩⟩
    cases o with
    | none =>
      refine Or.inl ⟨rfl, no (fun _ => ?_)⟩
      rw [ek]; exact hi
    | some u =>
      have uu := ζok_u i.1.1 ho
      have un : u + 30 ≤ ζ.2.2.2.2 := by
        rcases i.1.1.2 with e | e | e | e | e <;> rcases ho with q | q <;> (rw [q] at e; simp at e; try omega)
      refine Or.inr ⟨u, rfl, s_copyIn hn uu un (fun g0 c => yes u uu un ⟨y.1, by omega⟩ (by rw [ek]; exact hi.1) (by rw [ek]; exact hi.2) g0 c)⟩
  by_cases x0 : x = 0
  · exact both ζ.2.2.1 0 (by omega) (Or.inl rfl) (by rw [x0]; rfl) im.1
  · exact both ζ.2.2.2.1 1 (by omega) (Or.inr rfl) (by rw [show x = 1 by omega]; rfl) im.2
end RE2
