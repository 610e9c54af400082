/-! balance -/
def mnF (f : Nat → Int) : Nat → Int
  | 0 => f 0
  | n + 1 => min (mnF f n) (f n)
def mxF (f : Nat → Int) : Nat → Int
  | 0 => f 0
  | n + 1 => max (mxF f n) (f n)
theorem mn_bd {f : Nat → Int} {K L : Int} : ∀ {n : Nat}, (∀ i, i < n ∨ i = 0 → K ≤ f i ∧ f i ≤ L) → (K ≤ mnF f n ∧ mnF f n ≤ L) ∧ (K ≤ mxF f n ∧ mxF f n ≤ L) ∧ mnF f n ≤ mxF f n
  | 0, h => by
    have := h 0 (Or.inr rfl)
    unfold mnF mxF
    omega
  | n + 1, h => by
    have ih := mn_bd (n := n) (fun i hi => h i (by omega))
    have := h n (by omega)
    unfold mnF mxF
    omega
theorem mnF_1 (f : Nat → Int) : mnF f 1 = f 0 ∧ mxF f 1 = f 0 := by
  unfold mnF mxF mnF mxF
  omega
section OP11
variable {l : Launch} {D : Nat} {ζ : ZP} {h : HI} {Q : Int → HI → Prop} {QV : HI → Prop} {p x : Int}
theorem s_weakOf (hn : 144 ≤ ζ.2.2.2.2) {n : Nat} (n1 : 1 ≤ n) (n60 : n ≤ 60) {f : Nat → Int} (hf : ∀ r : Nat, r < n → h 118 r = f r ∧ rg (f r)) (hq : Q (mnF f n) h) : RtI l (D + 1) mX12_weakOf (zz ζ) [aP 97, aI n] h Q := by
  refine e_X12_weakOf hn ?_
  have b := fun k (hk : k ≤ n) => mn_bd (f := f) (K := -2147483648) (L := 2147483647) (n := k) (fun i hi => (hf i (by omega)).2)
  have main : ∀ (m k : Nat), k + m = n → 1 ≤ k → G l (D + 1) 0 0 mX12_weakOf (zz ζ) 9 [aP 97, aI n, aI (mnF f k), aI k] [] h (qI (zz ζ) Q) := by
    intro m
    induction m with
    | zero =>
      intro k hk k1
      have : k = n := by omega
      subst this
      exact b_X12_weakOf_9 hn ⟨by constructor <;> omega, by constructor <;> omega, iteP (by omega) hq⟩
    | succ m ih =>
      intro k hk k1
      have fk := hf k (by omega)
      have kk := ih (k + 1) (by omega) (by omega)
      rw [show ((k + 1 : Nat) : Int) = (k : Int) + 1 by omega, show mnF f (k + 1) = min (mnF f k) (f k) from rfl] at kk
      refine b_X12_weakOf_9 hn ⟨by constructor <;> omega, by constructor <;> omega, iteN (by omega) ⟨⟨by omega, by omega⟩, ?_⟩⟩
      rw [fk.1]
      refine ⟨fk.2, (b k (by omega)).1, iteI (fun y => ?_) (fun y => ?_)⟩
      · rw [Int.min_eq_left y] at kk; exact kk
      · rw [Int.min_eq_right (by omega)] at kk; exact kk
  have m0 := main (n - 1) 1 (by omega) (by omega)
  have f0 := hf 0 (by omega)
  have e0 : h 118 0 = f 0 := f0.1
  rw [(mnF_1 f).1] at m0
  rw [e0]
  exact m0
theorem s_strongOf (hn : 144 ≤ ζ.2.2.2.2) {n : Nat} (n1 : 1 ≤ n) (n60 : n ≤ 60) {f : Nat → Int} (hf : ∀ r : Nat, r < n → h 118 r = f r ∧ rg (f r)) (hq : Q (mxF f n) h) : RtI l (D + 1) mX12_strongOf (zz ζ) [aP 97, aI n] h Q := by
  refine e_X12_strongOf hn ?_
  have b := fun k (hk : k ≤ n) => mn_bd (f := f) (K := -2147483648) (L := 2147483647) (n := k) (fun i hi => (hf i (by omega)).2)
  have main : ∀ (m k : Nat), k + m = n → 1 ≤ k → G l (D + 1) 0 0 mX12_strongOf (zz ζ) 9 [aP 97, aI n, aI (mxF f k), aI k] [] h (qI (zz ζ) Q) := by
    intro m
    induction m with
    | zero =>
      intro k hk k1
      have : k = n := by omega
      subst this
      exact b_X12_strongOf_9 hn ⟨by constructor <;> omega, by constructor <;> omega, iteP (by omega) hq⟩
    | succ m ih =>
      intro k hk k1
      have fk := hf k (by omega)
      have kk := ih (k + 1) (by omega) (by omega)
      rw [show ((k + 1 : Nat) : Int) = (k : Int) + 1 by omega, show mxF f (k + 1) = max (mxF f k) (f k) from rfl] at kk
      refine b_X12_strongOf_9 hn ⟨by constructor <;> omega, by constructor <;> omega, iteN (by omega) ⟨⟨by omega, by omega⟩, ?_⟩⟩
      rw [fk.1]
      refine ⟨fk.2, (b k (by omega)).2.1, iteI (fun y => ?_) (fun y => ?_)⟩
      · rw [Int.max_eq_left y] at kk; exact kk
      · rw [Int.max_eq_right (by omega)] at kk; exact kk
  have m0 := main (n - 1) 1 (by omega) (by omega)
  have f0 := hf 0 (by omega)
  have e0 : h 118 0 = f 0 := f0.1
  rw [(mnF_1 f).2] at m0
  rw [e0]
  exact m0
theorem op_balance (i : Inv ζ h) (hp : rg p) : Op l (D + 60) ζ mX11_balance mX12_balance [aI p] h := by
  have hn := ζok_n i.1.1
  have tp : tpI h := i.1.2 0
  have sr : SR (stk 3 h) (h 99) (h 101) := i.1.2 2
  have a : h 99 14 = h 10 0 ∧ 0 ≤ h 10 0 ∧ h 10 0 ≤ 10 := ⟨sr.2.2.2.2.1.1.2.2, sr.2.2.2.2.1.1.1, sr.2.2.2.2.1.1.2.1⟩
  have l5 : h 99 5 = h 7 3 ∧ 1 ≤ h 7 3 ∧ h 7 3 ≤ 99 := sr.1.2.2.1 3 (by decide) (by decide)
  have t1 := tp.1
  have t2 := tp.2.1
  have rb : rg (h 10 0 - 1) := by constructor <;> omega
  have f0 : FL [(1, 1)] h (hu h 1 1 0) := FL.refl.u rfl
  have z11 : hu h 1 1 0 1 1 = 0 := hu_s _ _ _ _
  -- ends without a change
  have fin0 : ∀ (k : HI), FL [(97, 0), (97, 2), (97, 3), (97, 4), (97, 5)] (hu h 1 1 0) k → k 97 2 = 0 → rg (-1) ∧ rg (-1) ∧ (-1 : Int) = -1 ∧ k 1000003 = h 1000003 ∧ k 1000004 = h 1000004 ∧ Inv ζ k := by
    intro k fk e2
    have F : FL [(1, 1), (97, 0), (97, 2), (97, 3), (97, 4), (97, 5)] h k := (f0.mono rfl).trans (fk.mono rfl)
    exact op_fin1 i rfl (by decide) F [0] rfl (new1 (tp0 tp F (by rw [fk.at 1 1 rfl]; exact z11) e2 rfl))
  have mtake : ∀ {R : Int → HI → Prop} (g : HI), g 97 = h 97 → (∀ k, FL [(97, 0), (97, 2), (97, 3), (97, 4), (97, 5)] g k → k 97 3 = h 1 1 → k 97 2 = 0 → RtI l (D + 59) mX12_isPack (zz ζ) [aP 97, aI p] k (fun r2 h2 => rg r2 ∧ (if r2 = 0 then R (-1) h2 else RtI l (D + 59) mX12_rowsIn (zz ζ) [aP 97, aI p] h2 (fun r3 h3 => rg (h2 97 3) ∧ rg r3 ∧ (if h2 97 3 = r3 then G l (D + 60) 0 0 mX12_balance (zz ζ) 36 [aP 97, aI p, aI 0, aU] [] h3 (qI (zz ζ) R) else R (-1) h3))))) → RtI l (D + 60) mX12_balance (zz ζ) [aP 97, aI p] g R := by
    intro R g eg hk
    refine e_X12_balance hn (s_taken hn (fun k fk a3 a2 a4 a5 => hk k ((FL.refl.u rfl).trans (fk.mono rfl)) ?_ a2))
    rw [a3, hu_j _ _ _ (by decide), eg]; exact tp.2.2.1
  refine e_X11_balance hn (s_hasP hn hp (by rw [hu_c _ _ _ (by decide)]; constructor <;> omega) ?_)
  rw [hu_c _ _ _ (by decide)]
  by_cases c : 0 ≤ p ∧ p ≤ h 10 0 - 1
  rotate_left
  · rw [if_neg c]
    refine ⟨by decide, iteP rfl ⟨f0.c _ rfl, f0.c _ rfl, mtake _ (f0.c 97 rfl) (fun k fk e3 e2 => s_isPack hn hp ?_ ?_)⟩⟩
    · rw [fk.c 99 rfl, f0.c 99 rfl, a.1]; exact rb
    · rw [fk.c 99 rfl, f0.c 99 rfl, a.1, if_neg c]
      exact ⟨by decide, iteP rfl (fin0 k fk e2)⟩
  rw [if_pos c]
  have v := pvS_ok sr c.1 (by show p < h 10 0; omega)
  have q2 := (sr.2.2.2.2.1.2.2.1 p c.1 (by show p < h 10 0; omega)).2.1
  have q2' : h 14 p = h 99 (1677 + 3 * p + 1) := q2.1
  have p10 : p < 10 := v.2.2.2.1
  have R14 : h 14 p = (pvS (stk 3 h) p).1 := v.2.1.symm
  have o1 := v.1.1
  have o3 := v.1.2.2.1
  have R40 : (pvS (stk 3 h) p).1 ≤ 40 := by have := Nat.mul_le_mul_left (pvS (stk 3 h) p).1 v.1.2.1; omega
  generalize hv : pvS (stk 3 h) p = V at v R14 o1 o3 R40
  refine ⟨by decide, iteN (by decide) ⟨⟨c.1, p10⟩, by constructor <;> omega, by rw [hu_c _ _ _ (by decide), R14]; constructor <;> omega, ?_⟩⟩
  rw [hu_c _ _ _ (by decide), R14]
  refine iteI (fun en => ?_) (fun en => ?_)
  rotate_left
  · refine ⟨f0.c _ rfl, f0.c _ rfl, mtake _ (f0.c 97 rfl) (fun k fk e3 e2 => s_isPack hn hp ?_ ?_)⟩
    · rw [fk.c 99 rfl, f0.c 99 rfl, a.1]; exact rb
    · rw [fk.c 99 rfl, f0.c 99 rfl, a.1, if_pos c]
      refine ⟨by decide, iteN (by decide) (e_X12_rowsIn hn ⟨⟨by omega, by omega⟩, ?_⟩)⟩
      rw [fk.c 99 rfl, f0.c 99 rfl, ← q2', R14, e3]
      exact ⟨by constructor <;> omega, by constructor <;> omega, iteN en (fin0 k fk e2)⟩
  -- rows as told: V.1 bytes
  have n540 : (V.1 : Int) ≤ 540 := by omega
  have tlb := fun (j : Nat) (hj : j < V.1) => tl_bd tp (i := (j : Int)) (by omega) (by omega)
  rw [en]
  -- the reference, up to its second loop
  have mhead : ∀ {R : Int → HI → Prop} (g : HI) {LX : List (Nat × Int)}, FL LX h g → (!inC LX 97 && !inC LX 98 && !inC LX 99) = true → (¬ (∀ j : Nat, j < V.1 → tl h j ≤ 100) → ∀ k, FL [(97, 0), (97, 2), (97, 3), (97, 4), (97, 5)] g k → k 97 2 = 0 → R (-1) k) → ((∀ j : Nat, j < V.1 → tl h j ≤ 100) → ∀ k, FL ((97, 0) :: (97, 2) :: (97, 3) :: (97, 4) :: (97, 5) :: LM) g k → k 97 2 = 0 → k 97 3 = V.1 → tM (stk 3 h) k → G l (D + 60) 0 0 mX12_balance (zz ζ) 68 [aP 97, aI p, aI 0, aU] [] k (qI (zz ζ) R)) → RtI l (D + 60) mX12_balance (zz ζ) [aP 97, aI p] g R := by
    intro R g LX fx cx hno hyes
    simp only [Bool.and_eq_true, Bool.not_eq_true'] at cx
    have e97 : g 97 = h 97 := fx.c 97 cx.1.1
    have e98 : g 98 = h 98 := fx.c 98 cx.1.2
    have e99 : g 99 = h 99 := fx.c 99 cx.2
    refine mtake g e97 (fun k fk e3 e2 => s_isPack hn hp ?_ ?_)
    · rw [fk.c 99 rfl, e99, a.1]; exact rb
    · rw [fk.c 99 rfl, e99, a.1, if_pos c]
      refine ⟨by decide, iteN (by decide) (e_X12_rowsIn hn ⟨⟨by omega, by omega⟩, ?_⟩)⟩
      rw [fk.c 99 rfl, e99, ← q2', R14, e3, en]
      refine ⟨by constructor <;> omega, by constructor <;> omega, iteP rfl ?_⟩
      have e3' : k 97 3 = V.1 := by rw [e3, en]
      have k98 : ∀ j : Int, 0 ≤ j → j < 540 → k 98 j = h 2 j := fun j j0 j1 => by rw [fk.c 98 rfl, e98]; exact (tp.2.2.2 j j0 j1).1
      have main : ∀ (m t : Nat), t + m = V.1 → (∀ j : Nat, j < t → tl h j ≤ 100) → G l (D + 60) 0 0 mX12_balance (zz ζ) 36 [aP 97, aI p, aI t, aU] [] k (qI (zz ζ) R) := by
        intro m
        induction m with
        | zero =>
          intro t ht hl
          have : t = V.1 := by omega
          subst this
          refine b_X12_balance_36 hn ⟨by constructor <;> omega, by rw [e3']; constructor <;> omega, iteP (by rw [e3']; omega) (i_settle i (by rw [fk.c 99 rfl, e99]) (fun k2 f2 _ tm => ?_))⟩
          exact hyes hl k2 ((fk.mono rfl).trans (f2.mono rfl)) (by rw [f2.at 97 2 rfl]; exact e2) (by rw [f2.at 97 3 rfl]; exact e3') tm
        | succ m ih =>
          intro t ht hl
          have tb := tlb t (by omega)
          refine b_X12_balance_36 hn ⟨by constructor <;> omega, by rw [e3']; constructor <;> omega, iteN (by rw [e3']; omega) (e_X12_octet hn ⟨⟨by omega, by omega⟩, ?_⟩)⟩
          rw [k98 t (by omega) (by omega), show band (h 2 t) 255 = tl h t from rfl]
          refine ⟨by constructor <;> omega, iteI (fun y => ?_) (fun y => hno (fun q => y (q t (by omega))) k fk e2)⟩
          have kk := ih (t + 1) (by omega) (fun j hj => by
            by_cases e : j = t
            · rw [e]; exact y
            · exact hl j (by omega))
          rw [show ((t + 1 : Nat) : Int) = (t : Int) + 1 by omega] at kk
          exact kk
      exact main V.1 0 (by omega) (fun j hj => absurd hj (by omega))
  have n2 : (hu h 1 1 0) 2 = h 2 := f0.c 2 rfl
  -- the class: its first loop
  have xmain : ∀ (m t : Nat), t + m = V.1 → (∀ j : Nat, j < t → tl h j ≤ 100) → G l (D + 60) 0 0 mX11_balance (zz ζ) 50 [aP 0, aI p, aI V.1, aI t] [] (hu h 1 1 0) (qI (zz ζ) (fun r1 h1 => h1 1000003 = h 1000003 ∧ h1 1000004 = h 1000004 ∧ RtI l (D + 60) mX12_balance (zz ζ) [aP 97, aI p] h1 (fun r2 h2 => rg r1 ∧ rg r2 ∧ r1 = r2 ∧ h2 1000003 = h 1000003 ∧ h2 1000004 = h 1000004 ∧ Inv ζ h2))) := by
    intro m
    induction m with
    | succ m ih =>
      intro t ht hl
      have tb := tlb t (by omega)
      refine b_X11_balance_50 hn ⟨by constructor <;> omega, by constructor <;> omega, iteN (by omega) (s_at hn ⟨by omega, by omega⟩ ?_)⟩
      rw [n2, show band (h 2 t) 255 = tl h t from rfl]
      refine s_within hn (by constructor <;> omega) rg_0 (by decide) ?_
      by_cases y : 0 ≤ tl h t ∧ tl h t ≤ 100
      · rw [if_pos y]
        have kk := ih (t + 1) (by omega) (fun j hj => by
          by_cases e : j = t
          · rw [e]; exact y.2
          · exact hl j (by omega))
        rw [show ((t + 1 : Nat) : Int) = (t : Int) + 1 by omega] at kk
        exact ⟨by decide, iteP (by decide) kk⟩
      · rw [if_neg y]
        refine ⟨by decide, iteN (by decide) ⟨f0.c _ rfl, f0.c _ rfl, mhead _ f0 rfl (fun _ k fk e2 => fin0 k fk e2) (fun q => absurd (q t (by omega)) (by omega))⟩⟩
    | zero =>
      intro t ht hl
      have : t = V.1 := by omega
      subst this
      refine b_X11_balance_50 hn ⟨by constructor <;> omega, by constructor <;> omega, iteP (by omega) ?_⟩
      have i0 : Inv ζ h := i
      -- refresh on the emptied tape
      have ok := sr.2.2.1.2.1
      have tr0 : trI (hu h 1 1 0) := i.2.fl f0 rfl
      have es0 : stk 3 (hu h 1 1 0) = stk 3 h := stk_fl (fun k hk => hu_c _ _ _ (by omega))
      have tdx : TDX (td (stk 3 h)) (hu h 1 1 0) := by
        have a0 : 0 ≤ h 4 3 := sr.1.1.1
        have a3 : 0 ≤ h 3 5 := sr.2.2.1.1.1
        have a2 : 0 ≤ h 3 3 := sr.2.1.1.1
        refine TDX.fl (L := [(1, 1)]) (h := h) ⟨rfl, rfl, rfl, rfl, (Int.toNat_of_nonneg a3).symm, (Int.toNat_of_nonneg a2).symm, (Int.toNat_of_nonneg a0).symm⟩ f0 rfl
      refine s_refresh hn ok tdx (by rcases tr0.1 with e | e <;> rw [e] <;> decide) (by have := tr0.2; rw [es0] at this; exact this) (fun g f z ts tw => ?_)
      have tx := tX_of ok tw
      have F : FL LPk h g := (f0.mono rfl).trans (f.mono rfl)
      have vx : pvX g p V := by rw [← hv]; exact pvX_of sr c.1 (by omega) F rfl tx
      have g2 : g 2 = h 2 := F.c 2 rfl
      -- the rows filled
      have fb : ∀ r : Nat, r < V.1 → (0 ≤ (pvh V r * tl h r).tdiv 100 ∧ (pvh V r * tl h r).tdiv 100 ≤ 240000) ∧ rg (pvh V r * tl h r) := by
        intro r hr
        have b1 := pvh_bd v.1 hr
        have b2 := tlb r hr
        have b3 := hl r hr
        have m1 := Int.mul_le_mul b1.2 b3 b2.1 (by decide)
        have m0 := Int.mul_nonneg (show 0 ≤ pvh V r by omega) b2.1
        have d1 := Int.tdiv_eq_ediv_of_nonneg (b := 100) m0
        exact ⟨by omega, by constructor <;> omega⟩
      have filled : ∀ {R : Int → HI → Prop} (r : Nat), r < V.1 → R ((pvh V r * tl h r).tdiv 100) g → RtI l (D + 58) mX11_filled (zz ζ) [aP 0, aI p, aI r] g R := by
        intro R r hr hR
        refine e_X11_filled hn (s_xholdOf hn v.1 vx hr (s_at hn ⟨by omega, by omega⟩ ?_))
        rw [g2, show band (h 2 r) 255 = tl h r from rfl]
        exact ⟨(fb r hr).2, hR⟩
      generalize hF : (fun r : Nat => (pvh V r * tl h r).tdiv 100) = FF
      have hFe : ∀ r, (pvh V r * tl h r).tdiv 100 = FF r := fun r => by rw [← hF]
      have mb := fun k (hk : k ≤ V.1) => mn_bd (f := FF) (K := 0) (L := 240000) (n := k) (fun r hr => by rw [← hF]; exact (fb r (by omega)).1)
      have smb := fun k (hk : k ≤ V.1) => sm_bd (f := FF) (K := 0) (L := 240000) (n := k) (fun r hr => by rw [← hF]; exact (fb r (by omega)).1)
      have bl : ∀ (m t : Nat), t + m = V.1 → G l (D + 59) 0 0 mX11_bleed (zz ζ) 16 [aP 0, aI p, aI V.1, aI (mnF FF t), aI (mxF FF t), aI (sm FF t), aI t, aU] [] g (qI (zz ζ) (fun r1 h1 => h1 1000003 = h 1000003 ∧ h1 1000004 = h 1000004 ∧ RtI l (D + 60) mX12_balance (zz ζ) [aP 97, aI p] h1 (fun r2 h2 => rg r1 ∧ rg r2 ∧ r1 = r2 ∧ h2 1000003 = h 1000003 ∧ h2 1000004 = h 1000004 ∧ Inv ζ h2))) := by
        intro m
        induction m with
        | succ m ihm =>
          intro t ht
          have mt := mb t (by omega)
          have ft := (fb t (by omega)).1
          rw [hFe] at ft
          have kk := ihm (t + 1) (by omega)
          rw [show ((t + 1 : Nat) : Int) = (t : Int) + 1 by omega] at kk
          refine b_X11_bleed_16 hn ⟨by constructor <;> omega, by constructor <;> omega, iteN (by omega) (filled t (by omega) ?_)⟩
          rw [hFe]
          exact ⟨by constructor <;> omega, by constructor <;> omega, by constructor <;> omega, kk⟩
        | zero =>
          intro t ht
          have : t = V.1 := by omega
          subst this
          have mt := mb V.1 (Nat.le_refl _)
          have st := smb V.1 (Nat.le_refl _)
          have e73 : g 7 3 = h 7 3 := F.at 7 3 rfl
          have k1 := Int.mul_le_mul (show (V.1 : Int) ≤ 40 by omega) mt.1.2 mt.1.1 (by decide)
          have k0 := Int.mul_nonneg (show (0 : Int) ≤ V.1 by omega) mt.1.1
          refine b_X11_bleed_16 hn ⟨by constructor <;> omega, by constructor <;> omega, iteP (by omega) ?_⟩
          rw [e73]
          refine s_cut hn (by constructor <;> omega) (by constructor <;> omega) ?_
          rw [if_neg (by omega)]
          generalize hlost : sm FF V.1 - (V.1 : Int) * mnF FF V.1 = LO
          have FX : FL ((0, 12) :: LPk) h (hu g 0 12 LO) := (F.mono rfl).u rfl
          refine ⟨FX.c _ rfl, FX.c _ rfl, mhead _ FX rfl (fun q => absurd hl q) (fun _ k fk e2 e3 tm => ?_)⟩
          have k99 : k 99 = h 99 := by rw [fk.c 99 rfl, FX.c 99 rfl]
          have vm : pvM k p V := by rw [← hv]; exact pvM_of sr c.1 (by omega) k99 tm
          have k98 : ∀ j : Int, 0 ≤ j → j < 540 → k 98 j = h 2 j := fun j j0 j1 => by rw [fk.c 98 rfl, FX.c 98 rfl]; exact (tp.2.2.2 j j0 j1).1
          have m68 : ∀ (m t : Nat) (k' : HI), t + m = V.1 → FL [(118, -1)] k k' → (∀ r : Nat, r < t → k' 118 r = FF r) → G l (D + 60) 0 0 mX12_balance (zz ζ) 68 [aP 97, aI p, aI t, aU] [] k' (qI (zz ζ) (fun r2 h2 => rg ((mxF FF V.1 - mnF FF V.1 + h 7 3 - 1).tdiv (h 7 3)) ∧ rg r2 ∧ (mxF FF V.1 - mnF FF V.1 + h 7 3 - 1).tdiv (h 7 3) = r2 ∧ h2 1000003 = h 1000003 ∧ h2 1000004 = h 1000004 ∧ Inv ζ h2)) := by
            intro m
            induction m with
            | succ m ih2 =>
              intro t k' ht fk' hs
              have e3' : k' 97 3 = V.1 := by rw [fk'.at 97 3 rfl]; exact e3
              have vm' : pvM k' p V := by
                refine ⟨vm.1, by rw [fk'.c 99 rfl]; exact vm.2.1, by rw [fk'.c 99 rfl]; exact vm.2.2.1, fun y y0 y1 => ?_⟩
                rw [fk'.c 99 rfl, fk'.c 106 rfl, fk'.c 107 rfl]; exact vm.2.2.2 y y0 y1
              have ft := fb t (by omega)
              refine b_X12_balance_68 hn ⟨by constructor <;> omega, by rw [e3']; constructor <;> omega, iteN (by rw [e3']; omega) (s_mholdOf hn v.1 vm' (by omega) (e_X12_octet hn ⟨⟨by omega, by omega⟩, ?_⟩))⟩
              rw [fk'.c 98 rfl, k98 t (by omega) (by omega), show band (h 2 t) 255 = tl h t from rfl]
              refine ⟨ft.2, ⟨by omega, by omega⟩, ?_⟩
              rw [hFe]
              have kk := ih2 (t + 1) (hu k' 118 t (FF t)) (by omega) (fk'.ua rfl) (fun r hr => by
                by_cases e : r = t
                · rw [e, hu_s]
                · rw [hu_j _ _ _ (by omega)]; exact hs r (by omega))
              rw [show ((t + 1 : Nat) : Int) = (t : Int) + 1 by omega] at kk
              exact kk
            | zero =>
              intro t k' ht fk' hs
              have : t = V.1 := by omega
              subst this
              have e3' : k' 97 3 = V.1 := by rw [fk'.at 97 3 rfl]; exact e3
              have frg : ∀ r : Nat, r < V.1 → rg (FF r) := fun r hr => by rw [← hFe]; have := (fb r hr).1; constructor <;> omega
              refine b_X12_balance_68 hn ⟨by constructor <;> omega, by rw [e3']; constructor <;> omega, iteP (by rw [e3']; omega) ?_⟩
              rw [e3']
              refine s_weakOf hn o1 (by omega) (f := FF) (fun r hr => ⟨hs r hr, frg r hr⟩) ?_
              have m119 : ∀ (m t : Nat) (k2 : HI), t + m = V.1 → FL [(97, 62)] k' k2 → k2 97 62 = sm FF t - (t : Int) * mnF FF V.1 → G l (D + 60) 0 0 mX12_balance (zz ζ) 119 [aP 97, aU, aI (mnF FF V.1), aI t] [] k2 (qI (zz ζ) (fun r2 h2 => rg ((mxF FF V.1 - mnF FF V.1 + h 7 3 - 1).tdiv (h 7 3)) ∧ rg r2 ∧ (mxF FF V.1 - mnF FF V.1 + h 7 3 - 1).tdiv (h 7 3) = r2 ∧ h2 1000003 = h 1000003 ∧ h2 1000004 = h 1000004 ∧ Inv ζ h2)) := by
                intro m
                induction m with
                | succ m ih3 =>
                  intro t k2 ht f2 hs2
                  have e3'' : k2 97 3 = V.1 := by rw [f2.at 97 3 rfl]; exact e3'
                  refine b_X12_balance_119 hn ⟨by constructor <;> omega, by rw [e3'']; constructor <;> omega, iteN (by rw [e3'']; omega) ⟨⟨by omega, by omega⟩, ?_⟩⟩
                  have kk := ih3 (t + 1) (hu k2 97 62 (k2 97 62 + (k2 118 t - mnF FF V.1))) (by omega) (f2.u rfl) (by
                    rw [hu_s, hs2, f2.c 118 rfl, hs t (by omega), show ((t + 1 : Nat) : Int) = (t : Int) + 1 by omega, Int.add_mul]
                    show _ = sm FF t + FF t - _
                    omega)
                  rw [show ((t + 1 : Nat) : Int) = (t : Int) + 1 by omega] at kk
                  exact kk
                | zero =>
                  intro t k2 ht f2 hs2
                  have : t = V.1 := by omega
                  subst this
                  have e3'' : k2 97 3 = V.1 := by rw [f2.at 97 3 rfl]; exact e3'
                  have k599 : k2 99 5 = h 7 3 := by rw [f2.c 99 rfl, fk'.c 99 rfl, k99, l5.1]
                  refine b_X12_balance_119 hn ⟨by constructor <;> omega, by rw [e3'']; constructor <;> omega, iteP (by rw [e3'']; omega) ?_⟩
                  rw [e3'']
                  refine s_strongOf hn o1 (by omega) (f := FF) (fun r hr => ⟨by rw [f2.c 118 rfl]; exact hs r hr, frg r hr⟩) ?_
                  rw [k599]
                  refine ⟨by constructor <;> omega, by constructor <;> omega, by omega, ?_⟩
                  have FK : FL ((0, 12) :: (97, 62) :: (118, -1) :: (97, 0) :: (97, 2) :: (97, 3) :: (97, 4) :: (97, 5) :: (LPk ++ LM)) h k2 := (((FX.mono rfl).trans (fk.mono rfl)).trans (fk'.mono rfl)).trans (f2.mono rfl)
                  have d0 := Int.tdiv_nonneg (a := mxF FF V.1 - mnF FF V.1 + h 7 3 - 1) (b := h 7 3) (by omega) (by omega)
                  have d1 := Int.tdiv_le_self (a := mxF FF V.1 - mnF FF V.1 + h 7 3 - 1) (h 7 3) (by omega)
                  have e012 : k2 0 12 = LO := by rw [f2.at 0 12 rfl, fk'.at 0 12 rfl, fk.at 0 12 rfl, hu_s]
                  refine op_fin2 i rfl (by constructor <;> omega) FK [0, 7] rfl ?_ ?_
                  · intro n hm
                    rcases List.mem_cons.mp hm with e | hm
                    · subst e
                      refine tp0 tp FK ?_ ?_ rfl
                      · rw [f2.at 1 1 rfl, fk'.at 1 1 rfl, fk.at 1 1 rfl, hu_c _ _ _ (by decide), f.at 1 1 rfl]; exact z11
                      · rw [f2.at 97 2 rfl, fk'.at 97 2 rfl]; exact e2
                    · rw [List.mem_singleton] at hm
                      subst hm
                      refine ⟨by rw [hs2, e012, hlost], ?_⟩
                      rw [e012, ← hlost]; constructor <;> omega
                  · have es : stk 3 k2 = stk 3 h := stk_fl (fun q hq => FK.c (3 + q) (by
                      simp only [inC, List.any_cons, List.any_append, LPk, LM, List.any_nil, Bool.or_false, Bool.or_eq_false_iff, beq_eq_false_iff_ne]
                      omega))
                    have FGk : FL ((0, 12) :: (97, 62) :: (118, -1) :: (97, 0) :: (97, 2) :: (97, 3) :: (97, 4) :: (97, 5) :: LM) g k2 := (((FL.refl.u rfl).trans (fk.mono rfl)).trans (fk'.mono rfl)).trans (f2.mono rfl)
                    refine ⟨Or.inl (by rw [FGk.at 40 0 rfl]; exact z), fun _ => ?_⟩
                    rw [es]
                    exact ⟨ts.fl FGk rfl, tw.fl FGk rfl⟩
              exact m119 V.1 0 (hu k' 97 62 0) (by omega) (FL.refl.u rfl) (by rw [hu_s]; simp [sm])
          exact m68 V.1 0 k (by omega) FL.refl (fun r hr => absurd hr (by omega))
      refine e_X11_bleed hn (filled 0 (by omega) ?_)
      have b0 := bl V.1 0 (by omega)
      rw [hFe]
      exact b0
  exact xmain V.1 0 (by omega) (fun j hj => absurd hj (by omega))
end OP11
