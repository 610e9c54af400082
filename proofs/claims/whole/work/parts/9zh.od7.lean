/-! ORDER, CHECK: the reference's lift, whole -/
section OD7
variable {l : Launch} {D : Nat} {ζ : ZP} {Q : Int → HI → Prop} {QV : HI → Prop} {A B : Int → Int} {m M : Nat} {F : Int} {h0 : HI}
/-- strips and their ends stand -/
def SE (h0 : HI) (A B : Int → Int) (m : Nat) (g : HI) : Prop := (g 133 0 = m ∧ FL L3 h0 g) ∧ m ≤ 12 ∧ ∀ k : Nat, k < m → g 127 k = A k ∧ g 128 k = B k ∧ nd (A k) ∧ nd (B k)
def VL (F : Int) (g : HI) : Prop := ∀ x : Int, 0 ≤ x → x < F → 0 ≤ g 135 x
theorem VL.mono {g g' : HI} (hF : nd F) (a : VL F g) (h : ∀ x : Int, nd x → 0 ≤ g 135 x → g' 135 x = g 135 x) : VL F g' := fun x x0 x1 => by
  have q := a x x0 x1
  rw [h x ⟨x0, by have := hF.2; omega⟩ q]; exact q
theorem SE.fl {g g' : HI} (a : SE h0 A B m g) (f : FL L3 g g') : SE h0 A B m g' := by
  refine ⟨⟨?_, a.1.2.trans f⟩, a.2.1, ?_⟩
  · rw [f.c 133 (by decide)]; exact a.1.1
  · rw [f.c 127 (by decide), f.c 128 (by decide)]; exact a.2.2
theorem bitM (hM : M < 4096) {k : Nat} (hk : k < 12) : band (bshr (M : Int) (k : Int)) 1 = if M.testBit k = true then 1 else 0 := tb32 (by omega) (by omega)
/-- neighbours by strips -/
theorem s_lift130 (hn : 144 ≤ ζ.2.2.2.2) (hM : M < 4096) (hF : nd F) {i : Nat} {x0 : Int} (goal : ∀ (n : Nat) (g : HI), VL F g → SE h0 A B m g → LB A B m M g → LCl A B m M F g → LW A B m M F (i + 1) n g → i + 1 ≤ n → G l (D + 2) 0 0 mX12_lift (zz ζ) 67 [aP 97, aI M, aI F, aI n, aI (i + 1), aU, aU] [] g (qV (zz ζ) QV)) : ∀ (f k n : Nat) (g : HI), k + f = m → VL F g → SE h0 A B m g → LB A B m M g → LCl A B m M F g → LW A B m M F i n g → i < n → g 137 i = x0 → g 135 (flp x0) = F → (∀ k' : Nat, k' < k → M.testBit k' = true → (A k' = x0 → g 135 (B k') = F) ∧ (B k' = x0 → g 135 (A k') = F)) → G l (D + 2) 0 0 mX12_lift (zz ζ) 130 [aP 97, aI M, aI F, aI n, aI i, aI x0, aI k] [] g (qV (zz ζ) QV) := by
  intro f
  induction f with
  | zero =>
    intro k n g ek vl se lb lc lw hi e0 ef pn
    refine b_X12_lift_130 hn ⟨by have := se.2.1; constructor <;> omega, by rw [se.1.1]; have := se.2.1; constructor <;> omega, iteP (by rw [se.1.1]; omega) ?_⟩
    refine goal n g vl se lb lc ⟨lw.1, lw.2.1, fun j hj y hy ad => ?_, lw.2.2.2⟩ hi
    by_cases z : j = i
    · rw [z, e0] at ad
      rcases ad with w | ⟨k', h1, h2, h3⟩
      · rw [w]; exact ef
      · have q := pn k' (by omega) h2
        rcases h3 with w | w
        · rw [← w.2]; exact q.1 w.1
        · rw [← w.2]; exact q.2 w.1
    · exact lw.2.2.1 j (by omega) y hy ad
  | succ f ih =>
    intro k n g ek vl se lb lc lw hi e0 ef pn
    have m12 := se.2.1
    have sk := se.2.2 k (by omega)
    have nx0 : nd x0 := by rw [← e0]; exact (lw.1 i hi).1
    have wi := lw.1 i hi
    rw [e0] at wi
    have nA := sk.2.2.1
    have nB := sk.2.2.2
    have nA' := nA
    have nB' := nB
    have nx0' := nx0
    unfold nd at nA' nB' nx0'
    have cnt := cN_top (q := vis g) (N := 120)
    have w4 := lw.2.2.2
    -- go on with the next strip
    have nxt : ∀ (n' : Nat) (g' : HI), FL L3 g g' → LB A B m M g' → LCl A B m M F g' → LW A B m M F i n' g' → n ≤ n' → g' 137 i = g 137 i → (∀ x : Int, nd x → 0 ≤ g 135 x → g' 135 x = g 135 x) → (M.testBit k = true → (A k = x0 → g' 135 (B k) = F) ∧ (B k = x0 → g' 135 (A k) = F)) → G l (D + 2) 0 0 mX12_lift (zz ζ) 130 [aP 97, aI M, aI F, aI n', aI i, aI x0, aI (k + 1)] [] g' (qV (zz ζ) QV) := by
      intro n' g' ff lb' lc' lw' hn' e' mono new
      have mF : ∀ x : Int, nd x → g 135 x = F → g' 135 x = F := fun x hx ex => by rw [mono x hx (by rw [ex]; exact hF.1)]; exact ex
      have := ih (k + 1) n' g' (by omega) (vl.mono hF mono) (se.fl ff) lb' lc' lw' (by omega) (e'.trans e0) (mF _ (flp_nd nx0).1 ef) (fun k' hk' hb => by
        by_cases z : k' = k
        · rw [z] at hb ⊢; exact new hb
        · have q := pn k' (by omega) hb
          have s' := se.2.2 k' (by omega)
          exact ⟨fun w => mF _ s'.2.2.2 (q.1 w), fun w => mF _ s'.2.2.1 (q.2 w)⟩)
      rw [show ((k + 1 : Nat) : Int) = (k : Int) + 1 by omega] at this
      exact this
    refine b_X12_lift_130 hn ⟨by constructor <;> omega, by rw [se.1.1]; constructor <;> omega, iteN (by rw [se.1.1]; omega) ?_⟩
    rw [bitM hM (by omega)]
    by_cases cb : M.testBit k = true
    · rw [if_pos cb, sk.1, sk.2.1]
      refine ⟨by decide, iteP (by decide) ⟨by omega, by constructor <;> omega, by constructor <;> omega, ?_⟩⟩
      -- one coming
      have come : ∀ {y : Int} {Q' : Int → HI → Prop}, nd y → ((A k = x0 ∧ B k = y) ∨ (B k = x0 ∧ A k = y)) → (∀ g' n', FL L3 g g' → LB A B m M g' → LCl A B m M F g' → LW A B m M F i n' g' → n ≤ n' → g' 135 y = F → g' 137 i = g 137 i → g' 136 (g 137 i) = g 136 (g 137 i) → (∀ x : Int, nd x → 0 ≤ g 135 x → g' 135 x = g 135 x) → Q' n' g') → RtI l (D + 1) mX12_comes (zz ζ) [aP 97, aI y, aI F, aI (g 136 x0), aI n] g Q' := by
        intro y Q' hy ad hq
        refine s_comes hn hF hy lb lc lw hi (Or.inr ⟨k, by omega, cb, by rw [e0]; exact ad⟩) (fun q mv e => ?_) ?_ hq
        · have o := e.2 k (by omega) cb
          rw [e0]
          rcases ad with ⟨a1, a2⟩ | ⟨a1, a2⟩
          · rw [a1, a2] at o; exact ⟨o.1.symm, by omega⟩
          · rw [a1, a2] at o; exact ⟨o.1, by omega⟩
        · have := wi.2.2; omega
      by_cases cA : A k = x0
      · refine iteN (fun z => z cA) ⟨nx0, come nB (Or.inl ⟨cA, rfl⟩) (fun g' n' ff lb' lc' lw' hn' eF e' e6 mono => ?_)⟩
        have se' := se.fl ff
        have sk' := se'.2.2 k (by omega)
        rw [sk'.2.1, sk'.1]
        refine ⟨by constructor <;> omega, ?_⟩
        by_cases cB : B k = x0
        · refine iteN (fun z => z cB) ?_
          have wi' := lw'.1 i (by omega)
          rw [e', e0] at wi'
          refine s_comes hn hF nA lb' lc' lw' (by omega) (Or.inr ⟨k, by omega, cb, by rw [e', e0]; exact Or.inl ⟨cA, by rw [cA]; exact cB⟩⟩) (fun q mv e => ?_) ?_ (fun g2 n2 ff2 lb2 lc2 lw2 hn2 eF2 e2 e62 mono2 => ?_)
          · rw [e', e0, cA]; exact ⟨rfl, by omega⟩
          · have := wi'.2.2; omega
          · exact nxt n2 g2 (ff.trans ff2) lb2 lc2 lw2 (by omega) (e2.trans e') (fun x hx ex => by have q := mono x hx ex; rw [mono2 x hx (by rw [q]; exact ex), q]) (fun _ => ⟨fun _ => by rw [mono2 _ nB (by rw [eF]; exact hF.1)]; exact eF, fun _ => eF2⟩)
        · exact iteP cB (nxt n' g' ff lb' lc' lw' hn' e' mono (fun _ => ⟨fun _ => eF, fun z => absurd z cB⟩))
      · refine iteP cA ⟨by constructor <;> omega, ?_⟩
        by_cases cB : B k = x0
        · exact iteN (fun z => z cB) ⟨nx0, come nA (Or.inr ⟨cB, rfl⟩) (fun g' n' ff lb' lc' lw' hn' eF e' e6 mono => nxt n' g' ff lb' lc' lw' hn' e' mono (fun _ => ⟨fun z => absurd z cA, fun _ => eF⟩))⟩
        · exact iteP cB (nxt n g FL.refl lb lc lw (Nat.le_refl _) rfl (fun _ _ _ => rfl) (fun _ => ⟨fun z => absurd z cA, fun z => absurd z cB⟩))
    · rw [if_neg cb]
      exact ⟨by decide, iteN (by decide) (nxt n g FL.refl lb lc lw (Nat.le_refl _) rfl (fun _ _ _ => rfl) (fun z => absurd z cb))⟩
theorem tmod2 {x : Int} (h : 0 ≤ x) : x.tmod 2 = x % 2 := Int.tmod_eq_emod_of_nonneg h
theorem s_lift67 (hn : 144 ≤ ζ.2.2.2.2) (hM : M < 4096) (hF : nd F) (goal : ∀ (g : HI), VL F g → SE h0 A B m g → LB A B m M g → LCl A B m M (-1) g → 0 ≤ g 135 F → G l (D + 2) 0 0 mX12_lift (zz ζ) 23 [aP 97, aI M, aI (F + 1), aU, aU, aU, aU] [] g (qV (zz ζ) QV)) : ∀ (f i n : Nat) (g : HI), i + f = 120 → VL F g → SE h0 A B m g → LB A B m M g → LCl A B m M F g → LW A B m M F i n g → 1 ≤ n → i ≤ n → G l (D + 2) 0 0 mX12_lift (zz ζ) 67 [aP 97, aI M, aI F, aI n, aI i, aU, aU] [] g (qV (zz ζ) QV) := by
  have fin : ∀ (i n : Nat) (g : HI), i ≤ 120 → VL F g → SE h0 A B m g → LB A B m M g → LCl A B m M F g → LW A B m M F i n g → 1 ≤ n → n ≤ i → G l (D + 2) 0 0 mX12_lift (zz ζ) 67 [aP 97, aI M, aI F, aI n, aI i, aU, aU] [] g (qV (zz ζ) QV) := by
    intro i n g i120 vl se lb lc lw n1 ni
    have w0 := lw.1 0 (by omega)
    have FF : g 135 F = F := by
      have := ((lb.1 _ w0.1).2 (by rw [w0.2.1]; exact hF.1)).2.1
      rw [w0.2.1] at this; exact this
    refine b_X12_lift_67 hn ⟨by constructor <;> omega, by constructor <;> omega, iteP (by omega) (goal g vl se lb (fun x hx vx _ y hy ad => ?_) (by rw [FF]; exact hF.1))⟩
    by_cases c : g 135 x = F
    · obtain ⟨j, j1, j2⟩ := lw.2.1 x hx c
      rw [c]
      exact lw.2.2.1 j (by omega) y hy (by rw [j2]; exact ad)
    · exact lc x hx vx c y hy ad
  intro f
  induction f with
  | zero =>
    intro i n g e vl se lb lc lw n1 ni
    have cnt := cN_top (q := vis g) (N := 120)
    have w4 := lw.2.2.2
    exact fin i n g (by omega) vl se lb lc lw n1 (by omega)
  | succ f ih =>
    intro i n g e vl se lb lc lw n1 ni
    by_cases c : n ≤ i
    · exact fin i n g (by omega) vl se lb lc lw n1 c
    · have cnt := cN_top (q := vis g) (N := 120)
      have w4 := lw.2.2.2
      have wi := lw.1 i (by omega)
      generalize ex0 : g 137 i = x0 at wi
      have nx0 := wi.1
      have nx0' := nx0
      unfold nd at nx0'
      have go : ∀ {y hh : Int}, y = flp x0 → hh = g 136 x0 + (if x0 % 2 = 0 then 1 else -1) → RtI l (D + 1) mX12_comes (zz ζ) [aP 97, aI y, aI F, aI hh, aI n] g (fun r1 h1 => G l (D + 2) 0 0 mX12_lift (zz ζ) 130 [aP 97, aI M, aI F, aI r1, aI i, aI x0, aI 0] [] h1 (qV (zz ζ) QV)) := by
        intro y hh ey eh
        refine s_comes hn hF (by rw [ey]; exact (flp_nd nx0).1) lb lc lw (by omega) (Or.inl (by rw [ex0]; exact ey)) (fun q mv eg => ?_) ?_ (fun g' n' ff lb' lc' lw' hn' eF e' e6 mono => ?_)
        · have o := egs_flp eg nx0
          rw [ex0, ey, eh]
          exact ⟨o.1, by omega⟩
        · have := wi.2.2
          rw [eh]
          split <;> omega
        · refine s_lift130 (m := m) hn hM hF (i := i) (x0 := x0) (fun n2 g2 vl2 se2 lb2 lc2 lw2 hn2 => ?_) m 0 n' g' (by omega) (vl.mono hF mono) (se.fl ff) lb' lc' lw' (by omega) (e'.trans ex0) (by rw [← ey]; exact eF) (fun k' hk' => by omega)
          have := ih (i + 1) n2 g2 (by omega) vl2 se2 lb2 lc2 lw2 (by omega) (by omega)
          rw [show ((i + 1 : Nat) : Int) = (i : Int) + 1 by omega] at this
          exact this
      refine b_X12_lift_67 hn ⟨by constructor <;> omega, by constructor <;> omega, iteN (by omega) ⟨by omega, ?_⟩⟩
      rw [ex0, tmod2 nx0'.1]
      refine ⟨by constructor <;> omega, by constructor <;> omega, ?_⟩
      by_cases c2 : x0 % 2 = 0
      · exact iteN (fun z => z c2) ⟨nx0, iteN (fun z => z c2) (go (by unfold flp; rw [if_pos c2]) (by rw [if_pos c2]))⟩
      · exact iteP c2 ⟨nx0, iteP c2 (go (by unfold flp; rw [if_neg c2]) (by rw [if_neg c2]))⟩
end OD7
