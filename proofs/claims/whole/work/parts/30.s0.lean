/-! pure rows, the smallest methods -/
theorem hu_eq (h : HI) (k : Nat) (j v : Int) (a : Nat) (b : Int) : hu h k j v a b = if a = k ∧ b = j then v else h a b := rfl
theorem hu_s (h : HI) (k : Nat) (j v : Int) : hu h k j v k j = v := by simp [hu]
theorem hu_j (h : HI) (k : Nat) {j b : Int} (v : Int) (hb : b ≠ j) : hu h k j v k b = h k b := by simp [hu, hb]
theorem hu_c (h : HI) {k a : Nat} (j v : Int) (ha : a ≠ k) : hu h k j v a = h a := hu_ne a ha
theorem rg_01 {x : Int} (h : x = 0 ∨ x = 1) : rg x := by rcases h with rfl | rfl <;> exact ⟨by decide, by decide⟩
section S0
variable {l : Launch} {D : Nat} {ζ : ZP} {h : HI} {Q : Int → HI → Prop} {v lo hi x : Int}
theorem s_isIn (hn : 144 ≤ ζ.2.2.2.2) (h1 : rg v) (h2 : rg lo) (h3 : rg hi) (hq : Q (if lo ≤ v ∧ v ≤ hi then 1 else 0) h) : RtI l (D + 1) mX12_isIn (zz ζ) [aI v, aI lo, aI hi] h Q := by
  refine e_X12_isIn hn ⟨h1, h2, ?_⟩
  split
  · rw [if_neg (by omega)] at hq; exact hq
  · refine ⟨h3, ?_⟩
    split
    · rw [if_neg (by omega)] at hq; exact hq
    · rw [if_pos (by omega)] at hq; exact hq
theorem s_within (hn : 144 ≤ ζ.2.2.2.2) (h1 : rg v) (h2 : rg lo) (h3 : rg hi) (hq : Q (if lo ≤ v ∧ v ≤ hi then 1 else 0) h) : RtI l (D + 1) mX11_within (zz ζ) [aI v, aI lo, aI hi] h Q := by
  refine e_X11_within hn ⟨h1, h2, ?_⟩
  split
  · rw [if_neg (by omega)] at hq; exact hq
  · refine ⟨h3, ?_⟩
    split
    · rw [if_neg (by omega)] at hq; exact hq
    · rw [if_pos (by omega)] at hq; exact hq
theorem s_cut (hn : 144 ≤ ζ.2.2.2.2) (h1 : rg v) (h2 : rg lo) (hq : Q (if lo = 0 then 0 else v.tdiv lo) h) : RtI l (D + 1) mX11_cut (zz ζ) [aI v, aI lo] h Q := by
  refine e_X11_cut hn ⟨h2, ?_⟩
  split
  · rename_i q
    first
      | (rw [if_neg q] at hq; exact ⟨h1, q, hq⟩)
      | (rw [if_pos q] at hq; exact hq)
  · rename_i q
    first
      | (rw [if_pos (Classical.not_not.mp q)] at hq; exact hq)
      | (rw [if_neg q] at hq; exact ⟨h1, q, hq⟩)
theorem s_isCell (hn : 144 ≤ ζ.2.2.2.2) (h1 : rg x) (h2 : rg (h 99 11 - 1)) (hq : Q (if 0 ≤ x ∧ x ≤ h 99 11 - 1 then 1 else 0) h) : RtI l (D + 2) mX12_isCell (zz ζ) [aP 97, aI x] h Q := by
  refine e_X12_isCell hn ?_
  refine s_isIn hn h1 rg_0 h2 ?_
  refine ⟨?_, hq⟩
  split
  · exact Or.inr rfl
  · exact Or.inl rfl
end S0
