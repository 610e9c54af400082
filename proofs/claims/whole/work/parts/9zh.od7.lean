/-! ORDER, CHECK: the reference's lift, whole -/
section OD7
variable {l : Launch} {D : Nat} {ζ : ZP} {Q : Int → HI → Prop} {QV : HI → Prop} {A B : Int → Int} {m M : Nat} {F : Int}
/-- strips and their ends stand -/
def SE (A B : Int → Int) (m : Nat) (g : HI) : Prop := g 133 0 = m ∧ m ≤ 12 ∧ ∀ k : Nat, k < m → g 127 k = A k ∧ g 128 k = B k ∧ nd (A k) ∧ nd (B k)
theorem SE.fl {g g' : HI} (a : SE A B m g) (f : FL L3 g g') : SE A B m g' := by
  unfold SE; rw [f.c 133 (by decide), f.c 127 (by decide), f.c 128 (by decide)]; exact a
theorem bitM (hM : M < 4096) {k : Nat} (hk : k < 12) : band (bshr (M : Int) (k : Int)) 1 = if M.testBit k = true then 1 else 0 := tb32 (by omega) (by omega)
/-- neighbours by strips -/
theorem s_lift130 (hn : 144 ≤ ζ.2.2.2.2) (hM : M < 4096) (hF : nd F) {i : Nat} {x0 : Int} (goal : ∀ (n : Nat) (g : HI), SE A B m g → LB A B m M g → LCl A B m M F g → LW A B m M F (i + 1) n g → i + 1 ≤ n → G l (D + 2) 0 0 mX12_lift (zz ζ) 67 [aP 97, aI M, aI F, aI n, aI (i + 1), aU, aU] [] g (qV (zz ζ) QV)) : ∀ (f k n : Nat) (g : HI), k + f = m → SE A B m g → LB A B m M g → LCl A B m M F g → LW A B m M F i n g → i < n → g 137 i = x0 → g 135 (flp x0) = F → (∀ k' : Nat, k' < k → M.testBit k' = true → (A k' = x0 → g 135 (B k') = F) ∧ (B k' = x0 → g 135 (A k') = F)) → G l (D + 2) 0 0 mX12_lift (zz ζ) 130 [aP 97, aI M, aI F, aI n, aI i, aI x0, aI k] [] g (qV (zz ζ) QV) := by
  intro f
  induction f with
  | zero =>
    intro k n g ek se lb lc lw hi e0 ef pn
    refine b_X12_lift_130 hn ⟨by have := se.2.1; constructor <;> omega, by rw [se.1]; have := se.2.1; constructor <;> omega, iteP (by rw [se.1]; omega) ?_⟩
    refine goal n g se lb lc ⟨lw.1, lw.2.1, fun j hj y hy ad => ?_, lw.2.2.2⟩ hi
    by_cases z : j = i
    · rw [z, e0] at ad
      rcases ad with w | ⟨k', h1, h2, h3⟩
      · rw [w]; exact ef
      · have q := pn k' (by omega) h2
        rcases h3 with w | w
        · rw [← w.2]; exact q.1 w.1
        · rw [← w.2]; exact q.2 w.1
    · exact lw.2.2.1 j (by omega) y hy ad
  | succ f ih =>
    intro k n g ek se lb lc lw hi e0 ef pn
    have m12 := se.2.1
    have sk := se.2.2 k (by omega)
    have nx0 : nd x0 := by rw [← e0]; exact (lw.1 i hi).1
    have wi := lw.1 i hi
    rw [e0] at wi
    have nA := sk.2.2.1
    have nB := sk.2.2.2
    have nA' := nA
    have nB' := nB
    have nx0' := nx0
    unfold nd at nA' nB' nx0'
    have cnt := cN_top (q := vis g) (N := 120)
    have w4 := lw.2.2.2
    -- go on with the next strip
    have nxt : ∀ (n' : Nat) (g' : HI), FL L3 g g' → LB A B m M g' → LCl A B m M F g' → LW A B m M F i n' g' → n ≤ n' → g' 137 i = g 137 i → (∀ x : Int, nd x → g 135 x = F → g' 135 x = F) → (M.testBit k = true → (A k = x0 → g' 135 (B k) = F) ∧ (B k = x0 → g' 135 (A k) = F)) → G l (D + 2) 0 0 mX12_lift (zz ζ) 130 [aP 97, aI M, aI F, aI n', aI i, aI x0, aI (k + 1)] [] g' (qV (zz ζ) QV) := by
      intro n' g' ff lb' lc' lw' hn' e' mono new
      have := ih (k + 1) n' g' (by omega) (se.fl ff) lb' lc' lw' (by omega) (e'.trans e0) (mono _ (flp_nd nx0).1 ef) (fun k' hk' hb => by
        by_cases z : k' = k
        · rw [z] at hb ⊢; exact new hb
        · have q := pn k' (by omega) hb
          have s' := se.2.2 k' (by omega)
          exact ⟨fun w => mono _ s'.2.2.2 (q.1 w), fun w => mono _ s'.2.2.1 (q.2 w)⟩)
      rw [show ((k + 1 : Nat) : Int) = (k : Int) + 1 by omega] at this
      exact this
    refine b_X12_lift_130 hn ⟨by constructor <;> omega, by rw [se.1]; constructor <;> omega, iteN (by rw [se.1]; omega) ?_⟩
    rw [bitM hM (by omega)]
    by_cases cb : M.testBit k = true
    · rw [if_pos cb, sk.1, sk.2.1]
      refine ⟨by decide, iteP (by decide) ⟨by omega, by constructor <;> omega, by constructor <;> omega, ?_⟩⟩
      -- one coming
      have come : ∀ {y : Int} {Q' : Int → HI → Prop}, nd y → ((A k = x0 ∧ B k = y) ∨ (B k = x0 ∧ A k = y)) → (∀ g' n', FL L3 g g' → LB A B m M g' → LCl A B m M F g' → LW A B m M F i n' g' → n ≤ n' → g' 135 y = F → g' 137 i = g 137 i → g' 136 (g 137 i) = g 136 (g 137 i) → (∀ x : Int, nd x → g 135 x = F → g' 135 x = F) → Q' n' g') → RtI l (D + 1) mX12_comes (zz ζ) [aP 97, aI y, aI F, aI (g 136 x0), aI n] g Q' := by
        intro y Q' hy ad hq
        refine s_comes hn hF hy lb lc lw hi (Or.inr ⟨k, by omega, cb, by rw [e0]; exact ad⟩) (fun q mv e => ?_) ?_ hq
        · have o := e.2 k (by omega) cb
          rw [e0]
          rcases ad with ⟨a1, a2⟩ | ⟨a1, a2⟩
          · rw [a1, a2] at o; exact ⟨o.1.symm, by omega⟩
          · rw [a1, a2] at o; exact ⟨o.1, by omega⟩
        · have := wi.2.2; omega
      by_cases cA : A k = x0
      · refine iteN (fun z => z cA) ⟨nx0, come nB (Or.inl ⟨cA, rfl⟩) (fun g' n' ff lb' lc' lw' hn' eF e' e6 mono => ?_)⟩
        have se' := se.fl ff
        have sk' := se'.2.2 k (by omega)
        rw [sk'.2.1, sk'.1]
        refine ⟨by constructor <;> omega, ?_⟩
        by_cases cB : B k = x0
        · refine iteN (fun z => z cB) ?_
          have wi' := lw'.1 i (by omega)
          rw [e', e0] at wi'
          refine s_comes hn hF nA lb' lc' lw' (by omega) (Or.inr ⟨k, by omega, cb, by rw [e', e0]; exact Or.inl ⟨cA, by rw [cA]; exact cB⟩⟩) (fun q mv e => ?_) ?_ (fun g2 n2 ff2 lb2 lc2 lw2 hn2 eF2 e2 e62 mono2 => ?_)
          · rw [e', e0, cA]; exact ⟨rfl, by omega⟩
          · have := wi'.2.2; omega
          · exact nxt n2 g2 (ff.trans ff2) lb2 lc2 lw2 (by omega) (e2.trans e') (fun x hx ex => mono2 x hx (mono x hx ex)) (fun _ => ⟨fun _ => mono2 _ nB eF, fun _ => eF2⟩)
        · exact iteP cB (nxt n' g' ff lb' lc' lw' hn' e' mono (fun _ => ⟨fun _ => eF, fun z => absurd z cB⟩))
      · refine iteP cA ⟨by constructor <;> omega, ?_⟩
        by_cases cB : B k = x0
        · exact iteN (fun z => z cB) ⟨nx0, come nA (Or.inr ⟨cB, rfl⟩) (fun g' n' ff lb' lc' lw' hn' eF e' e6 mono => nxt n' g' ff lb' lc' lw' hn' e' mono (fun _ => ⟨fun z => absurd z cA, fun _ => eF⟩))⟩
        · exact iteP cB (nxt n g FL.refl lb lc lw (Nat.le_refl _) rfl (fun _ _ z => z) (fun _ => ⟨fun z => absurd z cA, fun z => absurd z cB⟩))
    · rw [if_neg cb]
      exact ⟨by decide, iteN (by decide) (nxt n g FL.refl lb lc lw (Nat.le_refl _) rfl (fun _ _ z => z) (fun z => absurd z cb))⟩
end OD7
