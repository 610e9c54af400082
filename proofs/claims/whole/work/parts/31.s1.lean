/-! four bytes behind the tape: class and reference alike -/
def pst (h : HI) (tc ob : Nat) (sl x s : Int) : HI := hu (hu h tc (h ob sl) (b8 (b8 (bshr x s)))) ob sl (h ob sl + 1)
def put4 (h : HI) (tc ob : Nat) (sl x : Int) : HI := pst (pst (pst (pst h tc ob sl x 24) tc ob sl x 16) tc ob sl x 8) tc ob sl x 0
theorem pst_n (h : HI) (tc ob : Nat) (sl x s : Int) : pst h tc ob sl x s ob sl = h ob sl + 1 := by simp [pst, hu]
section S1
variable {l : Launch} {D : Nat} {ζ : ZP} {h : HI} {Q : HI → Prop} {x : Int}
theorem s_four (hn : 144 ≤ ζ.2.2.2.2) (h0 : 0 ≤ h 97 2) (h1 : h 97 2 + 4 ≤ 540) (hq : Q (put4 h 98 97 2 x)) : RtV l (D + 1) mX12_four (zz ζ) [aP 97, aI x] h Q := by
  have step : ∀ (g : HI) (s : Int), rg s → 0 ≤ s → 0 ≤ g 97 2 → g 97 2 < 540 → G l (D + 1) 0 0 mX12_four (zz ζ) 3 [aP 97, aI x, aI (s + (-8))] [] (pst g 98 97 2 x s) (qV (zz ζ) Q) → G l (D + 1) 0 0 mX12_four (zz ζ) 3 [aP 97, aI x, aI s] [] g (qV (zz ζ) Q) := by
    intro g s hs h2 h3 h4 k
    refine b_X12_four_3 hn ⟨hs, ?_⟩
    rw [if_neg (by omega)]
    exact ⟨⟨h3, h4⟩, k⟩
  refine e_X12_four hn ?_
  refine step h 24 (by decide) (by decide) h0 (by omega) ?_
  refine step _ 16 (by decide) (by decide) (by rw [pst_n]; omega) (by rw [pst_n]; omega) ?_
  refine step _ 8 (by decide) (by decide) (by rw [pst_n, pst_n]; omega) (by rw [pst_n, pst_n]; omega) ?_
  refine step _ 0 (by decide) (by decide) (by rw [pst_n, pst_n, pst_n]; omega) (by rw [pst_n, pst_n, pst_n]; omega) ?_
  refine b_X12_four_3 hn ⟨by decide, ?_⟩
  rw [if_pos (by decide)]
  exact hq
theorem s_add (hn : 144 ≤ ζ.2.2.2.2) (h0 : 0 ≤ h 1 1) (h1 : h 1 1 + 4 ≤ 540) (hq : Q (put4 h 2 1 1 x)) : RtV l (D + 1) mX7_add (zz ζ) [aP 1, aI x] h Q := by
  have step : ∀ (g : HI) (s : Int), rg s → 0 ≤ s → 0 ≤ g 1 1 → g 1 1 < 540 → G l (D + 1) 0 0 mX7_add (zz ζ) 3 [aP 1, aI x, aI (s + (-8))] [] (pst g 2 1 1 x s) (qV (zz ζ) Q) → G l (D + 1) 0 0 mX7_add (zz ζ) 3 [aP 1, aI x, aI s] [] g (qV (zz ζ) Q) := by
    intro g s hs h2 h3 h4 k
    refine b_X7_add_3 hn ⟨hs, ?_⟩
    rw [if_neg (by omega)]
    refine ⟨⟨by omega, by omega⟩, ?_⟩
    rw [if_neg (by omega)]
    exact ⟨⟨h3, h4⟩, k⟩
  refine e_X7_add hn ?_
  refine step h 24 (by decide) (by decide) h0 (by omega) ?_
  refine step _ 16 (by decide) (by decide) (by rw [pst_n]; omega) (by rw [pst_n]; omega) ?_
  refine step _ 8 (by decide) (by decide) (by rw [pst_n, pst_n]; omega) (by rw [pst_n, pst_n]; omega) ?_
  refine step _ 0 (by decide) (by decide) (by rw [pst_n, pst_n, pst_n]; omega) (by rw [pst_n, pst_n, pst_n]; omega) ?_
  refine b_X7_add_3 hn ⟨by decide, ?_⟩
  rw [if_pos (by decide)]
  exact hq
end S1
